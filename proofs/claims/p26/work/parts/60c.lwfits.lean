def wsL_fits_r1 : List Cond := [Cond.arrayClass .int, Cond.constant RL 82 (99999), Cond.methodLink RL 13 yX4_count, Cond.instanceMethod yX4_count, Cond.selects RX4 yX4_count yX4_count, Cond.initialized RX4, Cond.code yX4_count cX4_count 2 (some .int), Cond.fieldLink RX4 10 "EvenLoads" "now" "LEvenLoads$Cluster;", Cond.fieldLink RX4 25 "EvenLoads" "history" "LEvenLoads$History;", Cond.fieldLink RX4 39 "EvenLoads" "program" "LEvenLoads$Program;", Cond.methodLink RX4 114 yX0_finishedJobs, Cond.instanceMethod yX0_finishedJobs, Cond.selects RX0 yX0_finishedJobs yX0_finishedJobs, Cond.initialized RX0, Cond.code yX0_finishedJobs cX0_finishedJobs 3 (some .int), Cond.fieldLink RX0 37 "EvenLoads$Cluster" "jobs" "I", Cond.methodLink RX0 74 yX0_isFinished, Cond.instanceMethod yX0_isFinished, Cond.selects RX0 yX0_isFinished yX0_isFinished, Cond.code yX0_isFinished cX0_isFinished 2 (some .boolean), Cond.fieldLink RX0 18 "EvenLoads$Cluster" "places" "[I", Cond.static yX4_at, Cond.code yX4_at cX4_at 2 (some .int), Cond.methodLink RX4 120 yX0_greatestLoad]
def wsL_fits_r2 : List Cond := [Cond.instanceMethod yX0_greatestLoad, Cond.selects RX0 yX0_greatestLoad yX0_greatestLoad, Cond.code yX0_greatestLoad cX0_greatestLoad 1 (some .int), Cond.fieldLink RX0 24 "EvenLoads$Cluster" "loads" "[I", Cond.methodLink RX0 124 yX0_fullestServer, Cond.instanceMethod yX0_fullestServer, Cond.selects RX0 yX0_fullestServer yX0_fullestServer, Cond.code yX0_fullestServer cX0_fullestServer 4 (some .int), Cond.fieldLink RX0 30 "EvenLoads$Cluster" "servers" "I", Cond.fieldLink RX0 27 "EvenLoads$Cluster" "opened" "[I", Cond.methodLink RX4 127 yX0_emptiestServer, Cond.instanceMethod yX0_emptiestServer, Cond.selects RX0 yX0_emptiestServer yX0_emptiestServer, Cond.code yX0_emptiestServer cX0_emptiestServer 4 (some .int), Cond.methodLink RX4 130 yX4_at, Cond.methodLink RX4 134 yX0_bound, Cond.instanceMethod yX0_bound, Cond.selects RX0 yX0_bound yX0_bound, Cond.code yX0_bound cX0_bound 3 (some .int), Cond.fieldLink RX0 9 "EvenLoads$Cluster" "sizes" "[I", Cond.methodLink RX0 127 Lib.Math.max.name, Cond.static Lib.Math.max.name, Cond.initialized "java/lang/Math", Cond.code Lib.Math.max.name Lib.Math.max.code 2 (some .int)]
def wsL_fits_r3 : List Cond := [Cond.fieldLink RX0 34 "EvenLoads$Cluster" "openServers" "I", Cond.fieldLink RX0 40 "EvenLoads$Cluster" "sum" "I", Cond.methodLink RX4 137 yX0_target, Cond.instanceMethod yX0_target, Cond.selects RX0 yX0_target yX0_target, Cond.code yX0_target cX0_target 1 (some .int), Cond.fieldLink RX0 46 "EvenLoads$Cluster" "factor" "I", Cond.methodLink RX0 132 yX0_bound, Cond.methodLink RX4 140 yX0_isEven, Cond.instanceMethod yX0_isEven, Cond.selects RX0 yX0_isEven yX0_isEven, Cond.code yX0_isEven cX0_isEven 1 (some .boolean), Cond.methodLink RX0 85 yX0_greatestLoad, Cond.methodLink RX0 77 yX0_target, Cond.methodLink RL 23 yX4_job, Cond.instanceMethod yX4_job, Cond.selects RX4 yX4_job yX4_job, Cond.code yX4_job cX4_job 3 (some .int), Cond.methodLink RX4 168 yX0_hasJob, Cond.instanceMethod yX0_hasJob, Cond.selects RX0 yX0_hasJob yX0_hasJob, Cond.code yX0_hasJob cX0_hasJob 2 (some .boolean), Cond.methodLink RL 19 yX4_server, Cond.instanceMethod yX4_server]
def wsL_fits_r4 : List Cond := [Cond.selects RX4 yX4_server yX4_server, Cond.code yX4_server cX4_server 3 (some .int), Cond.methodLink RX4 153 yX0_hasServer, Cond.instanceMethod yX0_hasServer, Cond.selects RX0 yX0_hasServer yX0_hasServer, Cond.code yX0_hasServer cX0_hasServer 2 (some .boolean), Cond.methodLink RX4 157 yX0_isOpen, Cond.instanceMethod yX0_isOpen, Cond.selects RX0 yX0_isOpen yX0_isOpen, Cond.code yX0_isOpen cX0_isOpen 2 (some .boolean), Cond.methodLink RX4 160 yX0_jobsOn, Cond.instanceMethod yX0_jobsOn, Cond.selects RX0 yX0_jobsOn yX0_jobsOn, Cond.code yX0_jobsOn cX0_jobsOn 4 (some .int), Cond.methodLink RX4 163 yJ6_bitCount_0f7a4, Cond.static yJ6_bitCount_0f7a4, Cond.initialized RJ6, Cond.code yJ6_bitCount_0f7a4 cJ6_bitCount_0f7a4 1 (some .int), Cond.constant RJ6 265 (1431655765), Cond.constant RJ6 266 (858993459), Cond.constant RJ6 267 (252645135), Cond.methodLink RL 63 yX4_leaving, Cond.instanceMethod yX4_leaving, Cond.selects RX4 yX4_leaving yX4_leaving]
def wsL_fits_r5 : List Cond := [Cond.code yX4_leaving cX4_leaving 3 (some .int), Cond.methodLink RX4 183 yX0_leavingJob, Cond.instanceMethod yX0_leavingJob, Cond.selects RX0 yX0_leavingJob yX0_leavingJob, Cond.code yX0_leavingJob cX0_leavingJob 4 (some .int), Cond.methodLink RX0 118 yX0_jobsLeavingBefore, Cond.instanceMethod yX0_jobsLeavingBefore, Cond.selects RX0 yX0_jobsLeavingBefore yX0_jobsLeavingBefore, Cond.code yX0_jobsLeavingBefore cX0_jobsLeavingBefore 4 (some .int), Cond.methodLink RX0 121 yX0_leavesBefore, Cond.instanceMethod yX0_leavesBefore, Cond.selects RX0 yX0_leavesBefore yX0_leavesBefore, Cond.code yX0_leavesBefore cX0_leavesBefore 3 (some .boolean), Cond.fieldLink RX0 15 "EvenLoads$Cluster" "prices" "[I"]
def wsL_fits : List Cond := .code yL_fits cL_fits 17 (some .boolean) :: ((wsL_fits_r1 ++ (wsL_fits_r2 ++ (wsL_fits_r3 ++ (wsL_fits_r4 ++ wsL_fits_r5)))) ++ wsX40 ++ wsX00 ++ wsX10 ++ wsX20)
set_option maxRecDepth 20000 in
theorem ggL_fits_X4_count : GoodIn wsL_fits wsX4_count := goodIn_r _ [7, 8, 9, 10, 11, 12, 13, 14, 15, 16, 17, 18, 19, 20, 21, 22, 6, 23, 24, 25, 26, 27, 28, 29, 30, 31, 32, 33, 34, 35, 36, 37, 38, 39, 40, 41, 42, 43, 44, 45, 46, 47, 48, 49, 50, 51, 52, 53, 54, 55, 56, 57, 58, 59, 60, 61, 62, 111, 112, 113, 114, 115, 116, 117, 118, 119, 120, 121, 122, 123, 124, 125, 126, 127, 128, 129, 130, 131, 132, 133, 134, 135, 136, 137, 138, 139, 140] (by decide +kernel) (by decide +kernel)
set_option maxRecDepth 20000 in
theorem gL_fits_X4_count : GoodIn wsL_fits (wsV RL 13 RX4 yX4_count wsX4_count) := goodIn_app (goodIn_of _ (by decide +kernel)) ggL_fits_X4_count
set_option maxRecDepth 20000 in
theorem ggL_fits_X4_job : GoodIn wsL_fits wsX4_job := goodIn_r _ [66, 8, 67, 68, 69, 14, 70, 16, 39, 22, 6, 23, 111, 112, 113, 114, 115, 116, 117, 118, 119, 120, 121, 122, 123, 124, 125, 126, 127, 128, 129] (by decide +kernel) (by decide +kernel)
set_option maxRecDepth 20000 in
theorem gL_fits_X4_job : GoodIn wsL_fits (wsV RL 23 RX4 yX4_job wsX4_job) := goodIn_app (goodIn_of _ (by decide +kernel)) ggL_fits_X4_job
set_option maxRecDepth 20000 in
theorem ggL_fits_X4_server : GoodIn wsL_fits wsX4_server := goodIn_r _ [74, 8, 75, 76, 77, 14, 78, 33, 79, 80, 81, 82, 34, 22, 6, 23, 39, 83, 84, 85, 86, 16, 21, 87, 88, 89, 90, 91, 92, 93, 111, 112, 113, 114, 115, 116, 117, 118, 119, 120, 121, 122, 123, 124, 125, 126, 127, 128, 129] (by decide +kernel) (by decide +kernel)
set_option maxRecDepth 20000 in
theorem gL_fits_X4_server : GoodIn wsL_fits (wsV RL 19 RX4 yX4_server wsX4_server) := goodIn_app (goodIn_of _ (by decide +kernel)) ggL_fits_X4_server
set_option maxRecDepth 20000 in
theorem ggL_fits_X4_leaving : GoodIn wsL_fits wsX4_leaving := goodIn_r _ [97, 8, 75, 76, 77, 14, 78, 33, 98, 99, 100, 101, 16, 21, 22, 6, 23, 102, 103, 104, 105, 106, 107, 108, 109, 44, 110, 111, 112, 113, 114, 115, 116, 117, 118, 119, 120, 121, 122, 123, 124, 125, 126, 127, 128, 129] (by decide +kernel) (by decide +kernel)
set_option maxRecDepth 20000 in
theorem gL_fits_X4_leaving : GoodIn wsL_fits (wsV RL 63 RX4 yX4_leaving wsX4_leaving) := goodIn_app (goodIn_of _ (by decide +kernel)) ggL_fits_X4_leaving
theorem dL_fits_0 : decode cL_fits 0 = .ok (.aload_n 0, 1) := by decide +kernel
theorem dL_fits_1 : decode cL_fits 1 = .ok (.iconst 0, 1) := by decide +kernel
theorem dL_fits_2 : decode cL_fits 2 = .ok (.invokevirtual 13, 3) := by decide +kernel
theorem dL_fits_5 : decode cL_fits 5 = .ok (.istore_n 1, 1) := by decide +kernel
theorem dL_fits_6 : decode cL_fits 6 = .ok (.aload_n 0, 1) := by decide +kernel
theorem dL_fits_7 : decode cL_fits 7 = .ok (.iconst 2, 1) := by decide +kernel
theorem dL_fits_8 : decode cL_fits 8 = .ok (.invokevirtual 13, 3) := by decide +kernel
theorem dL_fits_11 : decode cL_fits 11 = .ok (.istore_n 2, 1) := by decide +kernel
theorem dL_fits_12 : decode cL_fits 12 = .ok (.iconst 0, 1) := by decide +kernel
theorem dL_fits_13 : decode cL_fits 13 = .ok (.istore_n 3, 1) := by decide +kernel
theorem dL_fits_14 : decode cL_fits 14 = .ok (.iconst 0, 1) := by decide +kernel
theorem dL_fits_15 : decode cL_fits 15 = .ok (.istore 4, 2) := by decide +kernel
theorem dL_fits_17 : decode cL_fits 17 = .ok (.iconst 0, 1) := by decide +kernel
theorem dL_fits_18 : decode cL_fits 18 = .ok (.istore 5, 2) := by decide +kernel
theorem dL_fits_20 : decode cL_fits 20 = .ok (.iconst 0, 1) := by decide +kernel
theorem dL_fits_21 : decode cL_fits 21 = .ok (.istore 6, 2) := by decide +kernel
theorem dL_fits_23 : decode cL_fits 23 = .ok (.bipush 6, 2) := by decide +kernel
theorem dL_fits_25 : decode cL_fits 25 = .ok (.newarray .int, 2) := by decide +kernel
theorem dL_fits_27 : decode cL_fits 27 = .ok (.astore 7, 2) := by decide +kernel
theorem dL_fits_29 : decode cL_fits 29 = .ok (.bipush 6, 2) := by decide +kernel
theorem dL_fits_31 : decode cL_fits 31 = .ok (.newarray .int, 2) := by decide +kernel
theorem dL_fits_33 : decode cL_fits 33 = .ok (.astore 8, 2) := by decide +kernel
theorem dL_fits_35 : decode cL_fits 35 = .ok (.iconst 1, 1) := by decide +kernel
theorem dL_fits_36 : decode cL_fits 36 = .ok (.istore 9, 2) := by decide +kernel
theorem dL_fits_38 : decode cL_fits 38 = .ok (.iconst 0, 1) := by decide +kernel
theorem dL_fits_39 : decode cL_fits 39 = .ok (.istore 10, 2) := by decide +kernel
theorem dL_fits_41 : decode cL_fits 41 = .ok (.iload 10, 2) := by decide +kernel
theorem dL_fits_43 : decode cL_fits 43 = .ok (.iload_n 2, 1) := by decide +kernel
theorem dL_fits_44 : decode cL_fits 44 = .ok (.if_icmp .ge 176, 3) := by decide +kernel
theorem dL_fits_47 : decode cL_fits 47 = .ok (.iload 9, 2) := by decide +kernel
theorem dL_fits_49 : decode cL_fits 49 = .ok (.ifCond .eq 171, 3) := by decide +kernel
theorem dL_fits_52 : decode cL_fits 52 = .ok (.aload_n 0, 1) := by decide +kernel
theorem dL_fits_53 : decode cL_fits 53 = .ok (.iload 10, 2) := by decide +kernel
theorem dL_fits_55 : decode cL_fits 55 = .ok (.iconst 2, 1) := by decide +kernel
theorem dL_fits_56 : decode cL_fits 56 = .ok (.invokevirtual 23, 3) := by decide +kernel
theorem dL_fits_59 : decode cL_fits 59 = .ok (.istore 11, 2) := by decide +kernel
theorem dL_fits_61 : decode cL_fits 61 = .ok (.iload 11, 2) := by decide +kernel
theorem dL_fits_63 : decode cL_fits 63 = .ok (.bipush (-9), 2) := by decide +kernel
theorem dL_fits_65 : decode cL_fits 65 = .ok (.if_icmp .eq 41, 3) := by decide +kernel
theorem dL_fits_68 : decode cL_fits 68 = .ok (.iload 11, 2) := by decide +kernel
theorem dL_fits_70 : decode cL_fits 70 = .ok (.ifCond .lt 40, 3) := by decide +kernel
theorem dL_fits_73 : decode cL_fits 73 = .ok (.iload 11, 2) := by decide +kernel
theorem dL_fits_75 : decode cL_fits 75 = .ok (.iload_n 1, 1) := by decide +kernel
theorem dL_fits_76 : decode cL_fits 76 = .ok (.if_icmp .ge 34, 3) := by decide +kernel
theorem dL_fits_79 : decode cL_fits 79 = .ok (.aload_n 0, 1) := by decide +kernel
theorem dL_fits_80 : decode cL_fits 80 = .ok (.iload 11, 2) := by decide +kernel
theorem dL_fits_82 : decode cL_fits 82 = .ok (.iconst 0, 1) := by decide +kernel
theorem dL_fits_83 : decode cL_fits 83 = .ok (.invokevirtual 19, 3) := by decide +kernel
theorem dL_fits_86 : decode cL_fits 86 = .ok (.iconst 1, 1) := by decide +kernel
theorem dL_fits_87 : decode cL_fits 87 = .ok (.if_icmp .ne 23, 3) := by decide +kernel
theorem dL_fits_90 : decode cL_fits 90 = .ok (.aload_n 0, 1) := by decide +kernel
theorem dL_fits_91 : decode cL_fits 91 = .ok (.iload 11, 2) := by decide +kernel
theorem dL_fits_93 : decode cL_fits 93 = .ok (.iconst 4, 1) := by decide +kernel
theorem dL_fits_94 : decode cL_fits 94 = .ok (.invokevirtual 19, 3) := by decide +kernel
theorem dL_fits_97 : decode cL_fits 97 = .ok (.iload 10, 2) := by decide +kernel
theorem dL_fits_99 : decode cL_fits 99 = .ok (.ishr, 1) := by decide +kernel
theorem dL_fits_100 : decode cL_fits 100 = .ok (.iconst 1, 1) := by decide +kernel
theorem dL_fits_101 : decode cL_fits 101 = .ok (.iand, 1) := by decide +kernel
theorem dL_fits_102 : decode cL_fits 102 = .ok (.iconst 1, 1) := by decide +kernel
theorem dL_fits_103 : decode cL_fits 103 = .ok (.if_icmp .ne 7, 3) := by decide +kernel
theorem dL_fits_106 : decode cL_fits 106 = .ok (.iconst 1, 1) := by decide +kernel
theorem dL_fits_107 : decode cL_fits 107 = .ok (.goto 4, 3) := by decide +kernel
theorem dL_fits_110 : decode cL_fits 110 = .ok (.iconst 0, 1) := by decide +kernel
theorem dL_fits_111 : decode cL_fits 111 = .ok (.istore 9, 2) := by decide +kernel
theorem dL_fits_113 : decode cL_fits 113 = .ok (.iload 4, 2) := by decide +kernel
theorem dL_fits_115 : decode cL_fits 115 = .ok (.iload 11, 2) := by decide +kernel
theorem dL_fits_117 : decode cL_fits 117 = .ok (.bipush (-9), 2) := by decide +kernel
theorem dL_fits_119 : decode cL_fits 119 = .ok (.if_icmp .ne 7, 3) := by decide +kernel
theorem dL_fits_122 : decode cL_fits 122 = .ok (.iconst 1, 1) := by decide +kernel
theorem dL_fits_123 : decode cL_fits 123 = .ok (.goto 4, 3) := by decide +kernel
theorem dL_fits_126 : decode cL_fits 126 = .ok (.iconst 0, 1) := by decide +kernel
theorem dL_fits_127 : decode cL_fits 127 = .ok (.iadd, 1) := by decide +kernel
theorem dL_fits_128 : decode cL_fits 128 = .ok (.istore 4, 2) := by decide +kernel
theorem dL_fits_130 : decode cL_fits 130 = .ok (.iload 6, 2) := by decide +kernel
theorem dL_fits_132 : decode cL_fits 132 = .ok (.aload_n 0, 1) := by decide +kernel
theorem dL_fits_133 : decode cL_fits 133 = .ok (.iload 10, 2) := by decide +kernel
theorem dL_fits_135 : decode cL_fits 135 = .ok (.iconst 3, 1) := by decide +kernel
theorem dL_fits_136 : decode cL_fits 136 = .ok (.invokevirtual 23, 3) := by decide +kernel
theorem dL_fits_139 : decode cL_fits 139 = .ok (.iadd, 1) := by decide +kernel
theorem dL_fits_140 : decode cL_fits 140 = .ok (.istore 6, 2) := by decide +kernel
theorem dL_fits_142 : decode cL_fits 142 = .ok (.iload 9, 2) := by decide +kernel
theorem dL_fits_144 : decode cL_fits 144 = .ok (.ifCond .eq 70, 3) := by decide +kernel
theorem dL_fits_147 : decode cL_fits 147 = .ok (.iload 11, 2) := by decide +kernel
theorem dL_fits_149 : decode cL_fits 149 = .ok (.bipush (-9), 2) := by decide +kernel
theorem dL_fits_151 : decode cL_fits 151 = .ok (.if_icmp .eq 63, 3) := by decide +kernel
theorem dL_fits_154 : decode cL_fits 154 = .ok (.aload 7, 2) := by decide +kernel
theorem dL_fits_156 : decode cL_fits 156 = .ok (.iload 11, 2) := by decide +kernel
theorem dL_fits_158 : decode cL_fits 158 = .ok (.dup2, 1) := by decide +kernel
theorem dL_fits_159 : decode cL_fits 159 = .ok (.iaload, 1) := by decide +kernel
theorem dL_fits_160 : decode cL_fits 160 = .ok (.aload_n 0, 1) := by decide +kernel
theorem dL_fits_161 : decode cL_fits 161 = .ok (.iload 10, 2) := by decide +kernel
theorem dL_fits_163 : decode cL_fits 163 = .ok (.iconst 0, 1) := by decide +kernel
theorem dL_fits_164 : decode cL_fits 164 = .ok (.invokevirtual 23, 3) := by decide +kernel
theorem dL_fits_167 : decode cL_fits 167 = .ok (.iadd, 1) := by decide +kernel
theorem dL_fits_168 : decode cL_fits 168 = .ok (.iastore, 1) := by decide +kernel
theorem dL_fits_169 : decode cL_fits 169 = .ok (.aload 8, 2) := by decide +kernel
theorem dL_fits_171 : decode cL_fits 171 = .ok (.iload 11, 2) := by decide +kernel
theorem dL_fits_173 : decode cL_fits 173 = .ok (.dup2, 1) := by decide +kernel
theorem dL_fits_174 : decode cL_fits 174 = .ok (.iaload, 1) := by decide +kernel
theorem dL_fits_175 : decode cL_fits 175 = .ok (.iconst 1, 1) := by decide +kernel
theorem dL_fits_176 : decode cL_fits 176 = .ok (.iadd, 1) := by decide +kernel
theorem dL_fits_177 : decode cL_fits 177 = .ok (.iastore, 1) := by decide +kernel
theorem dL_fits_178 : decode cL_fits 178 = .ok (.iload_n 3, 1) := by decide +kernel
theorem dL_fits_179 : decode cL_fits 179 = .ok (.aload_n 0, 1) := by decide +kernel
theorem dL_fits_180 : decode cL_fits 180 = .ok (.iload 10, 2) := by decide +kernel
theorem dL_fits_182 : decode cL_fits 182 = .ok (.iconst 0, 1) := by decide +kernel
theorem dL_fits_183 : decode cL_fits 183 = .ok (.invokevirtual 23, 3) := by decide +kernel
theorem dL_fits_186 : decode cL_fits 186 = .ok (.iadd, 1) := by decide +kernel
theorem dL_fits_187 : decode cL_fits 187 = .ok (.istore_n 3, 1) := by decide +kernel
theorem dL_fits_188 : decode cL_fits 188 = .ok (.aload_n 0, 1) := by decide +kernel
theorem dL_fits_189 : decode cL_fits 189 = .ok (.iload 10, 2) := by decide +kernel
theorem dL_fits_191 : decode cL_fits 191 = .ok (.iconst 0, 1) := by decide +kernel
theorem dL_fits_192 : decode cL_fits 192 = .ok (.invokevirtual 23, 3) := by decide +kernel
theorem dL_fits_195 : decode cL_fits 195 = .ok (.iload 5, 2) := by decide +kernel
theorem dL_fits_197 : decode cL_fits 197 = .ok (.if_icmp .le 13, 3) := by decide +kernel
theorem dL_fits_200 : decode cL_fits 200 = .ok (.aload_n 0, 1) := by decide +kernel
theorem dL_fits_201 : decode cL_fits 201 = .ok (.iload 10, 2) := by decide +kernel
theorem dL_fits_203 : decode cL_fits 203 = .ok (.iconst 0, 1) := by decide +kernel
theorem dL_fits_204 : decode cL_fits 204 = .ok (.invokevirtual 23, 3) := by decide +kernel
theorem dL_fits_207 : decode cL_fits 207 = .ok (.goto 5, 3) := by decide +kernel
theorem dL_fits_210 : decode cL_fits 210 = .ok (.iload 5, 2) := by decide +kernel
theorem dL_fits_212 : decode cL_fits 212 = .ok (.istore 5, 2) := by decide +kernel
theorem dL_fits_214 : decode cL_fits 214 = .ok (.iinc 10 1, 3) := by decide +kernel
theorem dL_fits_217 : decode cL_fits 217 = .ok (.goto (-176), 3) := by decide +kernel
theorem dL_fits_220 : decode cL_fits 220 = .ok (.iconst 0, 1) := by decide +kernel
theorem dL_fits_221 : decode cL_fits 221 = .ok (.istore 10, 2) := by decide +kernel
theorem dL_fits_223 : decode cL_fits 223 = .ok (.iconst 0, 1) := by decide +kernel
theorem dL_fits_224 : decode cL_fits 224 = .ok (.istore 11, 2) := by decide +kernel
theorem dL_fits_226 : decode cL_fits 226 = .ok (.ldc 82, 2) := by decide +kernel
theorem dL_fits_228 : decode cL_fits 228 = .ok (.istore 12, 2) := by decide +kernel
theorem dL_fits_230 : decode cL_fits 230 = .ok (.iconst 0, 1) := by decide +kernel
theorem dL_fits_231 : decode cL_fits 231 = .ok (.istore 13, 2) := by decide +kernel
theorem dL_fits_233 : decode cL_fits 233 = .ok (.iload 13, 2) := by decide +kernel
theorem dL_fits_235 : decode cL_fits 235 = .ok (.iload_n 1, 1) := by decide +kernel
theorem dL_fits_236 : decode cL_fits 236 = .ok (.if_icmp .ge 342, 3) := by decide +kernel
theorem dL_fits_239 : decode cL_fits 239 = .ok (.iload 9, 2) := by decide +kernel
theorem dL_fits_241 : decode cL_fits 241 = .ok (.ifCond .eq 337, 3) := by decide +kernel
theorem dL_fits_244 : decode cL_fits 244 = .ok (.aload_n 0, 1) := by decide +kernel
theorem dL_fits_245 : decode cL_fits 245 = .ok (.iload 13, 2) := by decide +kernel
theorem dL_fits_247 : decode cL_fits 247 = .ok (.iconst 1, 1) := by decide +kernel
theorem dL_fits_248 : decode cL_fits 248 = .ok (.invokevirtual 19, 3) := by decide +kernel
theorem dL_fits_251 : decode cL_fits 251 = .ok (.aload 7, 2) := by decide +kernel
theorem dL_fits_253 : decode cL_fits 253 = .ok (.iload 13, 2) := by decide +kernel
theorem dL_fits_255 : decode cL_fits 255 = .ok (.iaload, 1) := by decide +kernel
theorem dL_fits_256 : decode cL_fits 256 = .ok (.if_icmp .ne 70, 3) := by decide +kernel
theorem dL_fits_259 : decode cL_fits 259 = .ok (.aload_n 0, 1) := by decide +kernel
theorem dL_fits_260 : decode cL_fits 260 = .ok (.iload 13, 2) := by decide +kernel
theorem dL_fits_262 : decode cL_fits 262 = .ok (.iconst 2, 1) := by decide +kernel
theorem dL_fits_263 : decode cL_fits 263 = .ok (.invokevirtual 19, 3) := by decide +kernel
theorem dL_fits_266 : decode cL_fits 266 = .ok (.aload 8, 2) := by decide +kernel
theorem dL_fits_268 : decode cL_fits 268 = .ok (.iload 13, 2) := by decide +kernel
theorem dL_fits_270 : decode cL_fits 270 = .ok (.iaload, 1) := by decide +kernel
theorem dL_fits_271 : decode cL_fits 271 = .ok (.if_icmp .ne 55, 3) := by decide +kernel
theorem dL_fits_274 : decode cL_fits 274 = .ok (.aload_n 0, 1) := by decide +kernel
theorem dL_fits_275 : decode cL_fits 275 = .ok (.iload 13, 2) := by decide +kernel
theorem dL_fits_277 : decode cL_fits 277 = .ok (.iconst 3, 1) := by decide +kernel
theorem dL_fits_278 : decode cL_fits 278 = .ok (.invokevirtual 19, 3) := by decide +kernel
theorem dL_fits_281 : decode cL_fits 281 = .ok (.iload_n 3, 1) := by decide +kernel
theorem dL_fits_282 : decode cL_fits 282 = .ok (.ifCond .ne 7, 3) := by decide +kernel
theorem dL_fits_285 : decode cL_fits 285 = .ok (.iconst 0, 1) := by decide +kernel
theorem dL_fits_286 : decode cL_fits 286 = .ok (.goto 14, 3) := by decide +kernel
theorem dL_fits_289 : decode cL_fits 289 = .ok (.sipush 1000, 3) := by decide +kernel
theorem dL_fits_292 : decode cL_fits 292 = .ok (.aload 7, 2) := by decide +kernel
theorem dL_fits_294 : decode cL_fits 294 = .ok (.iload 13, 2) := by decide +kernel
theorem dL_fits_296 : decode cL_fits 296 = .ok (.iaload, 1) := by decide +kernel
theorem dL_fits_297 : decode cL_fits 297 = .ok (.imul, 1) := by decide +kernel
theorem dL_fits_298 : decode cL_fits 298 = .ok (.iload_n 3, 1) := by decide +kernel
theorem dL_fits_299 : decode cL_fits 299 = .ok (.idiv, 1) := by decide +kernel
theorem dL_fits_300 : decode cL_fits 300 = .ok (.if_icmp .ne 26, 3) := by decide +kernel
theorem dL_fits_303 : decode cL_fits 303 = .ok (.aload_n 0, 1) := by decide +kernel
theorem dL_fits_304 : decode cL_fits 304 = .ok (.iload 13, 2) := by decide +kernel
theorem dL_fits_306 : decode cL_fits 306 = .ok (.iconst 0, 1) := by decide +kernel
theorem dL_fits_307 : decode cL_fits 307 = .ok (.invokevirtual 19, 3) := by decide +kernel
theorem dL_fits_310 : decode cL_fits 310 = .ok (.iconst 1, 1) := by decide +kernel
theorem dL_fits_311 : decode cL_fits 311 = .ok (.if_icmp .eq 11, 3) := by decide +kernel
theorem dL_fits_314 : decode cL_fits 314 = .ok (.aload 8, 2) := by decide +kernel
theorem dL_fits_316 : decode cL_fits 316 = .ok (.iload 13, 2) := by decide +kernel
theorem dL_fits_318 : decode cL_fits 318 = .ok (.iaload, 1) := by decide +kernel
theorem dL_fits_319 : decode cL_fits 319 = .ok (.ifCond .ne 7, 3) := by decide +kernel
theorem dL_fits_322 : decode cL_fits 322 = .ok (.iconst 1, 1) := by decide +kernel
theorem dL_fits_323 : decode cL_fits 323 = .ok (.goto 4, 3) := by decide +kernel
theorem dL_fits_326 : decode cL_fits 326 = .ok (.iconst 0, 1) := by decide +kernel
theorem dL_fits_327 : decode cL_fits 327 = .ok (.istore 9, 2) := by decide +kernel
theorem dL_fits_329 : decode cL_fits 329 = .ok (.iload 10, 2) := by decide +kernel
theorem dL_fits_331 : decode cL_fits 331 = .ok (.aload_n 0, 1) := by decide +kernel
theorem dL_fits_332 : decode cL_fits 332 = .ok (.iload 13, 2) := by decide +kernel
theorem dL_fits_334 : decode cL_fits 334 = .ok (.iconst 0, 1) := by decide +kernel
theorem dL_fits_335 : decode cL_fits 335 = .ok (.invokevirtual 19, 3) := by decide +kernel
theorem dL_fits_338 : decode cL_fits 338 = .ok (.iadd, 1) := by decide +kernel
theorem dL_fits_339 : decode cL_fits 339 = .ok (.istore 10, 2) := by decide +kernel
theorem dL_fits_341 : decode cL_fits 341 = .ok (.aload 7, 2) := by decide +kernel
theorem dL_fits_343 : decode cL_fits 343 = .ok (.iload 13, 2) := by decide +kernel
theorem dL_fits_345 : decode cL_fits 345 = .ok (.iaload, 1) := by decide +kernel
theorem dL_fits_346 : decode cL_fits 346 = .ok (.iload 11, 2) := by decide +kernel
theorem dL_fits_348 : decode cL_fits 348 = .ok (.if_icmp .le 11, 3) := by decide +kernel
theorem dL_fits_351 : decode cL_fits 351 = .ok (.aload 7, 2) := by decide +kernel
theorem dL_fits_353 : decode cL_fits 353 = .ok (.iload 13, 2) := by decide +kernel
theorem dL_fits_355 : decode cL_fits 355 = .ok (.iaload, 1) := by decide +kernel
theorem dL_fits_356 : decode cL_fits 356 = .ok (.goto 5, 3) := by decide +kernel
theorem dL_fits_359 : decode cL_fits 359 = .ok (.iload 11, 2) := by decide +kernel
theorem dL_fits_361 : decode cL_fits 361 = .ok (.istore 11, 2) := by decide +kernel
theorem dL_fits_363 : decode cL_fits 363 = .ok (.aload_n 0, 1) := by decide +kernel
theorem dL_fits_364 : decode cL_fits 364 = .ok (.iload 13, 2) := by decide +kernel
theorem dL_fits_366 : decode cL_fits 366 = .ok (.iconst 0, 1) := by decide +kernel
theorem dL_fits_367 : decode cL_fits 367 = .ok (.invokevirtual 19, 3) := by decide +kernel
theorem dL_fits_370 : decode cL_fits 370 = .ok (.iconst 1, 1) := by decide +kernel
theorem dL_fits_371 : decode cL_fits 371 = .ok (.if_icmp .ne 21, 3) := by decide +kernel
theorem dL_fits_374 : decode cL_fits 374 = .ok (.aload 7, 2) := by decide +kernel
theorem dL_fits_376 : decode cL_fits 376 = .ok (.iload 13, 2) := by decide +kernel
theorem dL_fits_378 : decode cL_fits 378 = .ok (.iaload, 1) := by decide +kernel
theorem dL_fits_379 : decode cL_fits 379 = .ok (.iload 12, 2) := by decide +kernel
theorem dL_fits_381 : decode cL_fits 381 = .ok (.if_icmp .ge 11, 3) := by decide +kernel
theorem dL_fits_384 : decode cL_fits 384 = .ok (.aload 7, 2) := by decide +kernel
theorem dL_fits_386 : decode cL_fits 386 = .ok (.iload 13, 2) := by decide +kernel
theorem dL_fits_388 : decode cL_fits 388 = .ok (.iaload, 1) := by decide +kernel
theorem dL_fits_389 : decode cL_fits 389 = .ok (.goto 5, 3) := by decide +kernel
theorem dL_fits_392 : decode cL_fits 392 = .ok (.iload 12, 2) := by decide +kernel
theorem dL_fits_394 : decode cL_fits 394 = .ok (.istore 12, 2) := by decide +kernel
theorem dL_fits_396 : decode cL_fits 396 = .ok (.bipush (-9), 2) := by decide +kernel
theorem dL_fits_398 : decode cL_fits 398 = .ok (.istore 14, 2) := by decide +kernel
theorem dL_fits_400 : decode cL_fits 400 = .ok (.iconst 0, 1) := by decide +kernel
theorem dL_fits_401 : decode cL_fits 401 = .ok (.istore 15, 2) := by decide +kernel
theorem dL_fits_403 : decode cL_fits 403 = .ok (.iload 15, 2) := by decide +kernel
theorem dL_fits_405 : decode cL_fits 405 = .ok (.aload 8, 2) := by decide +kernel
theorem dL_fits_407 : decode cL_fits 407 = .ok (.iload 13, 2) := by decide +kernel
theorem dL_fits_409 : decode cL_fits 409 = .ok (.iaload, 1) := by decide +kernel
theorem dL_fits_410 : decode cL_fits 410 = .ok (.if_icmp .ge 134, 3) := by decide +kernel
theorem dL_fits_413 : decode cL_fits 413 = .ok (.iload 9, 2) := by decide +kernel
theorem dL_fits_415 : decode cL_fits 415 = .ok (.ifCond .eq 129, 3) := by decide +kernel
theorem dL_fits_418 : decode cL_fits 418 = .ok (.aload_n 0, 1) := by decide +kernel
theorem dL_fits_419 : decode cL_fits 419 = .ok (.iload 13, 2) := by decide +kernel
theorem dL_fits_421 : decode cL_fits 421 = .ok (.iload 15, 2) := by decide +kernel
theorem dL_fits_423 : decode cL_fits 423 = .ok (.invokevirtual 63, 3) := by decide +kernel
theorem dL_fits_426 : decode cL_fits 426 = .ok (.istore 16, 2) := by decide +kernel
theorem dL_fits_428 : decode cL_fits 428 = .ok (.iload 16, 2) := by decide +kernel
theorem dL_fits_430 : decode cL_fits 430 = .ok (.ifCond .lt 101, 3) := by decide +kernel
theorem dL_fits_433 : decode cL_fits 433 = .ok (.aload_n 0, 1) := by decide +kernel
theorem dL_fits_434 : decode cL_fits 434 = .ok (.iload 16, 2) := by decide +kernel
theorem dL_fits_436 : decode cL_fits 436 = .ok (.iconst 2, 1) := by decide +kernel
theorem dL_fits_437 : decode cL_fits 437 = .ok (.invokevirtual 23, 3) := by decide +kernel
theorem dL_fits_440 : decode cL_fits 440 = .ok (.iload 13, 2) := by decide +kernel
theorem dL_fits_442 : decode cL_fits 442 = .ok (.if_icmp .ne 89, 3) := by decide +kernel
theorem dL_fits_445 : decode cL_fits 445 = .ok (.iload 14, 2) := by decide +kernel
theorem dL_fits_447 : decode cL_fits 447 = .ok (.bipush (-9), 2) := by decide +kernel
theorem dL_fits_449 : decode cL_fits 449 = .ok (.if_icmp .eq 78, 3) := by decide +kernel
theorem dL_fits_452 : decode cL_fits 452 = .ok (.aload_n 0, 1) := by decide +kernel
theorem dL_fits_453 : decode cL_fits 453 = .ok (.iload 16, 2) := by decide +kernel
theorem dL_fits_455 : decode cL_fits 455 = .ok (.iconst 0, 1) := by decide +kernel
theorem dL_fits_456 : decode cL_fits 456 = .ok (.invokevirtual 23, 3) := by decide +kernel
theorem dL_fits_459 : decode cL_fits 459 = .ok (.aload_n 0, 1) := by decide +kernel
theorem dL_fits_460 : decode cL_fits 460 = .ok (.iload 14, 2) := by decide +kernel
theorem dL_fits_462 : decode cL_fits 462 = .ok (.iconst 0, 1) := by decide +kernel
theorem dL_fits_463 : decode cL_fits 463 = .ok (.invokevirtual 23, 3) := by decide +kernel
theorem dL_fits_466 : decode cL_fits 466 = .ok (.if_icmp .lt 61, 3) := by decide +kernel
theorem dL_fits_469 : decode cL_fits 469 = .ok (.aload_n 0, 1) := by decide +kernel
theorem dL_fits_470 : decode cL_fits 470 = .ok (.iload 16, 2) := by decide +kernel
theorem dL_fits_472 : decode cL_fits 472 = .ok (.iconst 0, 1) := by decide +kernel
theorem dL_fits_473 : decode cL_fits 473 = .ok (.invokevirtual 23, 3) := by decide +kernel
theorem dL_fits_476 : decode cL_fits 476 = .ok (.aload_n 0, 1) := by decide +kernel
theorem dL_fits_477 : decode cL_fits 477 = .ok (.iload 14, 2) := by decide +kernel
theorem dL_fits_479 : decode cL_fits 479 = .ok (.iconst 0, 1) := by decide +kernel
theorem dL_fits_480 : decode cL_fits 480 = .ok (.invokevirtual 23, 3) := by decide +kernel
theorem dL_fits_483 : decode cL_fits 483 = .ok (.if_icmp .ne 48, 3) := by decide +kernel
theorem dL_fits_486 : decode cL_fits 486 = .ok (.aload_n 0, 1) := by decide +kernel
theorem dL_fits_487 : decode cL_fits 487 = .ok (.iload 16, 2) := by decide +kernel
theorem dL_fits_489 : decode cL_fits 489 = .ok (.iconst 1, 1) := by decide +kernel
theorem dL_fits_490 : decode cL_fits 490 = .ok (.invokevirtual 23, 3) := by decide +kernel
theorem dL_fits_493 : decode cL_fits 493 = .ok (.aload_n 0, 1) := by decide +kernel
theorem dL_fits_494 : decode cL_fits 494 = .ok (.iload 14, 2) := by decide +kernel
theorem dL_fits_496 : decode cL_fits 496 = .ok (.iconst 1, 1) := by decide +kernel
theorem dL_fits_497 : decode cL_fits 497 = .ok (.invokevirtual 23, 3) := by decide +kernel
theorem dL_fits_500 : decode cL_fits 500 = .ok (.if_icmp .gt 27, 3) := by decide +kernel
theorem dL_fits_503 : decode cL_fits 503 = .ok (.aload_n 0, 1) := by decide +kernel
theorem dL_fits_504 : decode cL_fits 504 = .ok (.iload 16, 2) := by decide +kernel
theorem dL_fits_506 : decode cL_fits 506 = .ok (.iconst 1, 1) := by decide +kernel
theorem dL_fits_507 : decode cL_fits 507 = .ok (.invokevirtual 23, 3) := by decide +kernel
theorem dL_fits_510 : decode cL_fits 510 = .ok (.aload_n 0, 1) := by decide +kernel
theorem dL_fits_511 : decode cL_fits 511 = .ok (.iload 14, 2) := by decide +kernel
theorem dL_fits_513 : decode cL_fits 513 = .ok (.iconst 1, 1) := by decide +kernel
theorem dL_fits_514 : decode cL_fits 514 = .ok (.invokevirtual 23, 3) := by decide +kernel
theorem dL_fits_517 : decode cL_fits 517 = .ok (.if_icmp .ne 14, 3) := by decide +kernel
theorem dL_fits_520 : decode cL_fits 520 = .ok (.iload 16, 2) := by decide +kernel
theorem dL_fits_522 : decode cL_fits 522 = .ok (.iload 14, 2) := by decide +kernel
theorem dL_fits_524 : decode cL_fits 524 = .ok (.if_icmp .le 7, 3) := by decide +kernel
theorem dL_fits_527 : decode cL_fits 527 = .ok (.iconst 1, 1) := by decide +kernel
theorem dL_fits_528 : decode cL_fits 528 = .ok (.goto 4, 3) := by decide +kernel
theorem dL_fits_531 : decode cL_fits 531 = .ok (.iconst 0, 1) := by decide +kernel
theorem dL_fits_532 : decode cL_fits 532 = .ok (.istore 9, 2) := by decide +kernel
theorem dL_fits_534 : decode cL_fits 534 = .ok (.iload 16, 2) := by decide +kernel
theorem dL_fits_536 : decode cL_fits 536 = .ok (.istore 14, 2) := by decide +kernel
theorem dL_fits_538 : decode cL_fits 538 = .ok (.iinc 15 1, 3) := by decide +kernel
theorem dL_fits_541 : decode cL_fits 541 = .ok (.goto (-138), 3) := by decide +kernel
theorem dL_fits_544 : decode cL_fits 544 = .ok (.iload 9, 2) := by decide +kernel
theorem dL_fits_546 : decode cL_fits 546 = .ok (.ifCond .eq 23, 3) := by decide +kernel
theorem dL_fits_549 : decode cL_fits 549 = .ok (.aload_n 0, 1) := by decide +kernel
theorem dL_fits_550 : decode cL_fits 550 = .ok (.iload 13, 2) := by decide +kernel
theorem dL_fits_552 : decode cL_fits 552 = .ok (.aload 8, 2) := by decide +kernel
theorem dL_fits_554 : decode cL_fits 554 = .ok (.iload 13, 2) := by decide +kernel
theorem dL_fits_556 : decode cL_fits 556 = .ok (.iaload, 1) := by decide +kernel
theorem dL_fits_557 : decode cL_fits 557 = .ok (.invokevirtual 63, 3) := by decide +kernel
theorem dL_fits_560 : decode cL_fits 560 = .ok (.bipush (-9), 2) := by decide +kernel
theorem dL_fits_562 : decode cL_fits 562 = .ok (.if_icmp .ne 7, 3) := by decide +kernel
theorem dL_fits_565 : decode cL_fits 565 = .ok (.iconst 1, 1) := by decide +kernel
theorem dL_fits_566 : decode cL_fits 566 = .ok (.goto 4, 3) := by decide +kernel
theorem dL_fits_569 : decode cL_fits 569 = .ok (.iconst 0, 1) := by decide +kernel
theorem dL_fits_570 : decode cL_fits 570 = .ok (.istore 9, 2) := by decide +kernel
theorem dL_fits_572 : decode cL_fits 572 = .ok (.iinc 13 1, 3) := by decide +kernel
theorem dL_fits_575 : decode cL_fits 575 = .ok (.goto (-342), 3) := by decide +kernel
theorem dL_fits_578 : decode cL_fits 578 = .ok (.iload 10, 2) := by decide +kernel
theorem dL_fits_580 : decode cL_fits 580 = .ok (.ifCond .ne 7, 3) := by decide +kernel
theorem dL_fits_583 : decode cL_fits 583 = .ok (.iconst 0, 1) := by decide +kernel
theorem dL_fits_584 : decode cL_fits 584 = .ok (.goto 12, 3) := by decide +kernel
theorem dL_fits_587 : decode cL_fits 587 = .ok (.iload_n 3, 1) := by decide +kernel
theorem dL_fits_588 : decode cL_fits 588 = .ok (.iload 10, 2) := by decide +kernel
theorem dL_fits_590 : decode cL_fits 590 = .ok (.iadd, 1) := by decide +kernel
theorem dL_fits_591 : decode cL_fits 591 = .ok (.iconst 1, 1) := by decide +kernel
theorem dL_fits_592 : decode cL_fits 592 = .ok (.isub, 1) := by decide +kernel
theorem dL_fits_593 : decode cL_fits 593 = .ok (.iload 10, 2) := by decide +kernel
theorem dL_fits_595 : decode cL_fits 595 = .ok (.idiv, 1) := by decide +kernel
theorem dL_fits_596 : decode cL_fits 596 = .ok (.istore 13, 2) := by decide +kernel
theorem dL_fits_598 : decode cL_fits 598 = .ok (.iload 13, 2) := by decide +kernel
theorem dL_fits_600 : decode cL_fits 600 = .ok (.iload 5, 2) := by decide +kernel
theorem dL_fits_602 : decode cL_fits 602 = .ok (.if_icmp .le 8, 3) := by decide +kernel
theorem dL_fits_605 : decode cL_fits 605 = .ok (.iload 13, 2) := by decide +kernel
theorem dL_fits_607 : decode cL_fits 607 = .ok (.goto 5, 3) := by decide +kernel
theorem dL_fits_610 : decode cL_fits 610 = .ok (.iload 5, 2) := by decide +kernel
theorem dL_fits_612 : decode cL_fits 612 = .ok (.istore 14, 2) := by decide +kernel
theorem dL_fits_614 : decode cL_fits 614 = .ok (.iload 9, 2) := by decide +kernel
theorem dL_fits_616 : decode cL_fits 616 = .ok (.ifCond .eq 151, 3) := by decide +kernel
theorem dL_fits_619 : decode cL_fits 619 = .ok (.aload_n 0, 1) := by decide +kernel
theorem dL_fits_620 : decode cL_fits 620 = .ok (.iconst 1, 1) := by decide +kernel
theorem dL_fits_621 : decode cL_fits 621 = .ok (.invokevirtual 13, 3) := by decide +kernel
theorem dL_fits_624 : decode cL_fits 624 = .ok (.iload 10, 2) := by decide +kernel
theorem dL_fits_626 : decode cL_fits 626 = .ok (.if_icmp .ne 141, 3) := by decide +kernel
theorem dL_fits_629 : decode cL_fits 629 = .ok (.iload_n 1, 1) := by decide +kernel
theorem dL_fits_630 : decode cL_fits 630 = .ok (.ifCond .eq 8, 3) := by decide +kernel
theorem dL_fits_633 : decode cL_fits 633 = .ok (.iload 10, 2) := by decide +kernel
theorem dL_fits_635 : decode cL_fits 635 = .ok (.ifCond .le 132, 3) := by decide +kernel
theorem dL_fits_638 : decode cL_fits 638 = .ok (.aload_n 0, 1) := by decide +kernel
theorem dL_fits_639 : decode cL_fits 639 = .ok (.iconst 3, 1) := by decide +kernel
theorem dL_fits_640 : decode cL_fits 640 = .ok (.invokevirtual 13, 3) := by decide +kernel
theorem dL_fits_643 : decode cL_fits 643 = .ok (.iload 4, 2) := by decide +kernel
theorem dL_fits_645 : decode cL_fits 645 = .ok (.if_icmp .ne 122, 3) := by decide +kernel
theorem dL_fits_648 : decode cL_fits 648 = .ok (.aload_n 0, 1) := by decide +kernel
theorem dL_fits_649 : decode cL_fits 649 = .ok (.iconst 4, 1) := by decide +kernel
theorem dL_fits_650 : decode cL_fits 650 = .ok (.invokevirtual 13, 3) := by decide +kernel
theorem dL_fits_653 : decode cL_fits 653 = .ok (.iload_n 3, 1) := by decide +kernel
theorem dL_fits_654 : decode cL_fits 654 = .ok (.if_icmp .ne 113, 3) := by decide +kernel
theorem dL_fits_657 : decode cL_fits 657 = .ok (.aload_n 0, 1) := by decide +kernel
theorem dL_fits_658 : decode cL_fits 658 = .ok (.iconst 5, 1) := by decide +kernel
theorem dL_fits_659 : decode cL_fits 659 = .ok (.invokevirtual 13, 3) := by decide +kernel
theorem dL_fits_662 : decode cL_fits 662 = .ok (.iload 11, 2) := by decide +kernel
theorem dL_fits_664 : decode cL_fits 664 = .ok (.if_icmp .ne 103, 3) := by decide +kernel
theorem dL_fits_667 : decode cL_fits 667 = .ok (.aload_n 0, 1) := by decide +kernel
theorem dL_fits_668 : decode cL_fits 668 = .ok (.bipush 6, 2) := by decide +kernel
theorem dL_fits_670 : decode cL_fits 670 = .ok (.invokevirtual 13, 3) := by decide +kernel
theorem dL_fits_673 : decode cL_fits 673 = .ok (.iload_n 1, 1) := by decide +kernel
theorem dL_fits_674 : decode cL_fits 674 = .ok (.ifCond .ne 7, 3) := by decide +kernel
theorem dL_fits_677 : decode cL_fits 677 = .ok (.iconst 0, 1) := by decide +kernel
theorem dL_fits_678 : decode cL_fits 678 = .ok (.goto 5, 3) := by decide +kernel
theorem dL_fits_681 : decode cL_fits 681 = .ok (.iload 12, 2) := by decide +kernel
theorem dL_fits_683 : decode cL_fits 683 = .ok (.if_icmp .ne 84, 3) := by decide +kernel
theorem dL_fits_686 : decode cL_fits 686 = .ok (.aload_n 0, 1) := by decide +kernel
theorem dL_fits_687 : decode cL_fits 687 = .ok (.bipush 7, 2) := by decide +kernel
theorem dL_fits_689 : decode cL_fits 689 = .ok (.invokevirtual 13, 3) := by decide +kernel
theorem dL_fits_692 : decode cL_fits 692 = .ok (.iload 14, 2) := by decide +kernel
theorem dL_fits_694 : decode cL_fits 694 = .ok (.if_icmp .ne 73, 3) := by decide +kernel
theorem dL_fits_697 : decode cL_fits 697 = .ok (.aload_n 0, 1) := by decide +kernel
theorem dL_fits_698 : decode cL_fits 698 = .ok (.bipush 8, 2) := by decide +kernel
theorem dL_fits_700 : decode cL_fits 700 = .ok (.invokevirtual 13, 3) := by decide +kernel
theorem dL_fits_703 : decode cL_fits 703 = .ok (.iload 14, 2) := by decide +kernel
theorem dL_fits_705 : decode cL_fits 705 = .ok (.aload_n 0, 1) := by decide +kernel
theorem dL_fits_706 : decode cL_fits 706 = .ok (.bipush 11, 2) := by decide +kernel
theorem dL_fits_708 : decode cL_fits 708 = .ok (.invokevirtual 13, 3) := by decide +kernel
theorem dL_fits_711 : decode cL_fits 711 = .ok (.imul, 1) := by decide +kernel
theorem dL_fits_712 : decode cL_fits 712 = .ok (.bipush 100, 2) := by decide +kernel
theorem dL_fits_714 : decode cL_fits 714 = .ok (.idiv, 1) := by decide +kernel
theorem dL_fits_715 : decode cL_fits 715 = .ok (.if_icmp .ne 52, 3) := by decide +kernel
theorem dL_fits_718 : decode cL_fits 718 = .ok (.aload_n 0, 1) := by decide +kernel
theorem dL_fits_719 : decode cL_fits 719 = .ok (.bipush 9, 2) := by decide +kernel
theorem dL_fits_721 : decode cL_fits 721 = .ok (.invokevirtual 13, 3) := by decide +kernel
theorem dL_fits_724 : decode cL_fits 724 = .ok (.iload 11, 2) := by decide +kernel
theorem dL_fits_726 : decode cL_fits 726 = .ok (.aload_n 0, 1) := by decide +kernel
theorem dL_fits_727 : decode cL_fits 727 = .ok (.bipush 8, 2) := by decide +kernel
theorem dL_fits_729 : decode cL_fits 729 = .ok (.invokevirtual 13, 3) := by decide +kernel
theorem dL_fits_732 : decode cL_fits 732 = .ok (.if_icmp .gt 7, 3) := by decide +kernel
theorem dL_fits_735 : decode cL_fits 735 = .ok (.iconst 1, 1) := by decide +kernel
theorem dL_fits_736 : decode cL_fits 736 = .ok (.goto 4, 3) := by decide +kernel
theorem dL_fits_739 : decode cL_fits 739 = .ok (.iconst 0, 1) := by decide +kernel
theorem dL_fits_740 : decode cL_fits 740 = .ok (.if_icmp .ne 27, 3) := by decide +kernel
theorem dL_fits_743 : decode cL_fits 743 = .ok (.aload_n 0, 1) := by decide +kernel
theorem dL_fits_744 : decode cL_fits 744 = .ok (.bipush 12, 2) := by decide +kernel
theorem dL_fits_746 : decode cL_fits 746 = .ok (.invokevirtual 13, 3) := by decide +kernel
theorem dL_fits_749 : decode cL_fits 749 = .ok (.iload 6, 2) := by decide +kernel
theorem dL_fits_751 : decode cL_fits 751 = .ok (.if_icmp .ne 16, 3) := by decide +kernel
theorem dL_fits_754 : decode cL_fits 754 = .ok (.aload_n 0, 1) := by decide +kernel
theorem dL_fits_755 : decode cL_fits 755 = .ok (.bipush 10, 2) := by decide +kernel
theorem dL_fits_757 : decode cL_fits 757 = .ok (.invokevirtual 13, 3) := by decide +kernel
theorem dL_fits_760 : decode cL_fits 760 = .ok (.ifCond .lt 7, 3) := by decide +kernel
theorem dL_fits_763 : decode cL_fits 763 = .ok (.iconst 1, 1) := by decide +kernel
theorem dL_fits_764 : decode cL_fits 764 = .ok (.goto 4, 3) := by decide +kernel
theorem dL_fits_767 : decode cL_fits 767 = .ok (.iconst 0, 1) := by decide +kernel
theorem dL_fits_768 : decode cL_fits 768 = .ok (.ireturn, 1) := by decide +kernel
