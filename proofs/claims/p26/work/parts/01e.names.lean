theorem dX4_open_5 : decode cX4_open 5 = .ok (.getfield 10, 3) := by decide +kernel
theorem dX4_open_8 : decode cX4_open 8 = .ok (.invokevirtual 43, 3) := by decide +kernel
theorem dX4_open_11 : decode cX4_open 11 = .ok (.aload_n 0, 1) := by decide +kernel
theorem dX4_open_12 : decode cX4_open 12 = .ok (.aload_n 0, 1) := by decide +kernel
theorem dX4_open_13 : decode cX4_open 13 = .ok (.getfield 10, 3) := by decide +kernel
theorem dX4_open_16 : decode cX4_open 16 = .ok (.iload_n 1, 1) := by decide +kernel
theorem dX4_open_17 : decode cX4_open 17 = .ok (.invokevirtual 85, 3) := by decide +kernel
theorem dX4_open_20 : decode cX4_open 20 = .ok (.invokevirtual 51, 3) := by decide +kernel
theorem dX4_open_23 : decode cX4_open 23 = .ok (.ireturn, 1) := by decide +kernel
set_option maxRecDepth 20000 in
theorem ggX4_undo_X1_takeLatest : GoodIn wsX4_undo wsX1_takeLatest := goodIn_r _ [7, 8, 9, 10, 11, 12, 6, 13, 14, 15, 16, 17, 18, 19, 20, 21, 22, 23, 24, 25, 26, 27, 28, 29, 30, 31, 32, 33, 34, 35, 36, 37, 38, 39, 40, 41, 42, 43, 50, 51, 52, 53, 54, 55, 56, 57, 58, 59, 60, 61, 62, 63, 64, 65] (by decide +kernel) (by decide +kernel)
set_option maxRecDepth 20000 in
theorem gX4_undo_X1_takeLatest : GoodIn wsX4_undo (wsV RX4 88 RX1 yX1_takeLatest wsX1_takeLatest) := goodIn_app (goodIn_of _ (by decide +kernel)) ggX4_undo_X1_takeLatest
theorem dX4_undo_0 : decode cX4_undo 0 = .ok (.aload_n 0, 1) := by decide +kernel
theorem dX4_undo_1 : decode cX4_undo 1 = .ok (.getfield 25, 3) := by decide +kernel
theorem dX4_undo_4 : decode cX4_undo 4 = .ok (.aload_n 0, 1) := by decide +kernel
theorem dX4_undo_5 : decode cX4_undo 5 = .ok (.getfield 10, 3) := by decide +kernel
theorem dX4_undo_8 : decode cX4_undo 8 = .ok (.invokevirtual 88, 3) := by decide +kernel
theorem dX4_undo_11 : decode cX4_undo 11 = .ok (.ifCond .ne 6, 3) := by decide +kernel
theorem dX4_undo_14 : decode cX4_undo 14 = .ok (.bipush (-2), 2) := by decide +kernel
theorem dX4_undo_16 : decode cX4_undo 16 = .ok (.ireturn, 1) := by decide +kernel
theorem dX4_undo_17 : decode cX4_undo 17 = .ok (.aload_n 0, 1) := by decide +kernel
theorem dX4_undo_18 : decode cX4_undo 18 = .ok (.getfield 25, 3) := by decide +kernel
theorem dX4_undo_21 : decode cX4_undo 21 = .ok (.getfield 92, 3) := by decide +kernel
theorem dX4_undo_24 : decode cX4_undo 24 = .ok (.ireturn, 1) := by decide +kernel
set_option maxRecDepth 20000 in
theorem ggX4_count_X0_finishedJobs : GoodIn wsX4_count wsX0_finishedJobs := goodIn_r _ [8, 9, 10, 11, 12, 7, 13, 14, 15, 16, 17, 63, 64, 65, 66, 67, 68, 69, 70, 71, 72, 73, 74, 75] (by decide +kernel) (by decide +kernel)
set_option maxRecDepth 20000 in
theorem gX4_count_X0_finishedJobs : GoodIn wsX4_count (wsV RX4 114 RX0 yX0_finishedJobs wsX0_finishedJobs) := goodIn_app (goodIn_of _ (by decide +kernel)) ggX4_count_X0_finishedJobs
set_option maxRecDepth 20000 in
theorem ggX4_count_X0_greatestLoad : GoodIn wsX4_count wsX0_greatestLoad := goodIn_r _ [21, 22, 23, 24, 25, 7, 26, 27, 28, 15, 16, 17, 63, 64, 65, 66, 67, 68, 69, 70, 71, 72, 73, 74, 75] (by decide +kernel) (by decide +kernel)
set_option maxRecDepth 20000 in
theorem gX4_count_X0_greatestLoad : GoodIn wsX4_count (wsV RX4 120 RX0 yX0_greatestLoad wsX0_greatestLoad) := goodIn_app (goodIn_of _ (by decide +kernel)) ggX4_count_X0_greatestLoad
set_option maxRecDepth 20000 in
theorem ggX4_count_X0_emptiestServer : GoodIn wsX4_count wsX0_emptiestServer := goodIn_r _ [32, 27, 22, 28, 15, 16, 17, 63, 64, 65, 66, 67, 68, 69, 70, 71, 72, 73, 74, 75] (by decide +kernel) (by decide +kernel)
set_option maxRecDepth 20000 in
theorem gX4_count_X0_emptiestServer : GoodIn wsX4_count (wsV RX4 127 RX0 yX0_emptiestServer wsX0_emptiestServer) := goodIn_app (goodIn_of _ (by decide +kernel)) ggX4_count_X0_emptiestServer
set_option maxRecDepth 20000 in
theorem ggX4_count_X4_at : GoodIn wsX4_count wsX4_at := goodIn_r _ [17] (by decide +kernel) (by decide +kernel)
set_option maxRecDepth 20000 in
theorem gX4_count_X4_at : GoodIn wsX4_count (va_wsS RX4 130 yX4_at wsX4_at) := goodIn_app (goodIn_of _ (by decide +kernel)) ggX4_count_X4_at
set_option maxRecDepth 20000 in
theorem ggX4_count_X0_bound : GoodIn wsX4_count wsX0_bound := goodIn_r _ [37, 9, 14, 38, 39, 40, 41, 42, 43, 44, 15, 16, 17, 63, 64, 65, 66, 67, 68, 69, 70, 71, 72, 73, 74, 75] (by decide +kernel) (by decide +kernel)
set_option maxRecDepth 20000 in
theorem gX4_count_X0_bound : GoodIn wsX4_count (wsV RX4 134 RX0 yX0_bound wsX0_bound) := goodIn_app (goodIn_of _ (by decide +kernel)) ggX4_count_X0_bound
set_option maxRecDepth 20000 in
theorem ggX4_count_X0_target : GoodIn wsX4_count wsX0_target := goodIn_r _ [48, 49, 50, 35, 36, 7, 37, 9, 14, 38, 39, 40, 41, 42, 43, 44, 15, 16, 17, 63, 64, 65, 66, 67, 68, 69, 70, 71, 72, 73, 74, 75] (by decide +kernel) (by decide +kernel)
set_option maxRecDepth 20000 in
theorem gX4_count_X0_target : GoodIn wsX4_count (wsV RX4 137 RX0 yX0_target wsX0_target) := goodIn_app (goodIn_of _ (by decide +kernel)) ggX4_count_X0_target
set_option maxRecDepth 20000 in
theorem ggX4_count_X0_isEven : GoodIn wsX4_count wsX0_isEven := goodIn_r _ [54, 55, 19, 20, 7, 21, 22, 23, 24, 25, 26, 27, 28, 15, 16, 17, 56, 46, 47, 48, 49, 50, 35, 36, 37, 9, 14, 38, 39, 40, 41, 42, 43, 44, 63, 64, 65, 66, 67, 68, 69, 70, 71, 72, 73, 74, 75] (by decide +kernel) (by decide +kernel)
set_option maxRecDepth 20000 in
theorem gX4_count_X0_isEven : GoodIn wsX4_count (wsV RX4 140 RX0 yX0_isEven wsX0_isEven) := goodIn_app (goodIn_of _ (by decide +kernel)) ggX4_count_X0_isEven
theorem dX4_count_0 : decode cX4_count 0 = .ok (.iload_n 1, 1) := by decide +kernel
theorem dX4_count_1 : decode cX4_count 1 = .ok (.tableswitch 213 0 14 #[75, 83, 91, 99, 107, 115, 123, 141, 149, 157, 173, 181, 189, 197, 205], 75) := by decide +kernel
theorem dX4_count_76 : decode cX4_count 76 = .ok (.aload_n 0, 1) := by decide +kernel
theorem dX4_count_77 : decode cX4_count 77 = .ok (.getfield 10, 3) := by decide +kernel
theorem dX4_count_80 : decode cX4_count 80 = .ok (.getfield 105, 3) := by decide +kernel
theorem dX4_count_83 : decode cX4_count 83 = .ok (.ireturn, 1) := by decide +kernel
theorem dX4_count_84 : decode cX4_count 84 = .ok (.aload_n 0, 1) := by decide +kernel
theorem dX4_count_85 : decode cX4_count 85 = .ok (.getfield 10, 3) := by decide +kernel
theorem dX4_count_88 : decode cX4_count 88 = .ok (.getfield 108, 3) := by decide +kernel
theorem dX4_count_91 : decode cX4_count 91 = .ok (.ireturn, 1) := by decide +kernel
theorem dX4_count_92 : decode cX4_count 92 = .ok (.aload_n 0, 1) := by decide +kernel
theorem dX4_count_93 : decode cX4_count 93 = .ok (.getfield 10, 3) := by decide +kernel
theorem dX4_count_96 : decode cX4_count 96 = .ok (.getfield 111, 3) := by decide +kernel
theorem dX4_count_99 : decode cX4_count 99 = .ok (.ireturn, 1) := by decide +kernel
theorem dX4_count_100 : decode cX4_count 100 = .ok (.aload_n 0, 1) := by decide +kernel
theorem dX4_count_101 : decode cX4_count 101 = .ok (.getfield 10, 3) := by decide +kernel
theorem dX4_count_104 : decode cX4_count 104 = .ok (.invokevirtual 114, 3) := by decide +kernel
theorem dX4_count_107 : decode cX4_count 107 = .ok (.ireturn, 1) := by decide +kernel
theorem dX4_count_108 : decode cX4_count 108 = .ok (.aload_n 0, 1) := by decide +kernel
theorem dX4_count_109 : decode cX4_count 109 = .ok (.getfield 10, 3) := by decide +kernel
theorem dX4_count_112 : decode cX4_count 112 = .ok (.getfield 117, 3) := by decide +kernel
theorem dX4_count_115 : decode cX4_count 115 = .ok (.ireturn, 1) := by decide +kernel
theorem dX4_count_116 : decode cX4_count 116 = .ok (.aload_n 0, 1) := by decide +kernel
theorem dX4_count_117 : decode cX4_count 117 = .ok (.getfield 10, 3) := by decide +kernel
theorem dX4_count_120 : decode cX4_count 120 = .ok (.invokevirtual 120, 3) := by decide +kernel
theorem dX4_count_123 : decode cX4_count 123 = .ok (.ireturn, 1) := by decide +kernel
theorem dX4_count_124 : decode cX4_count 124 = .ok (.aload_n 0, 1) := by decide +kernel
theorem dX4_count_125 : decode cX4_count 125 = .ok (.getfield 10, 3) := by decide +kernel
theorem dX4_count_128 : decode cX4_count 128 = .ok (.getfield 123, 3) := by decide +kernel
theorem dX4_count_131 : decode cX4_count 131 = .ok (.aload_n 0, 1) := by decide +kernel
theorem dX4_count_132 : decode cX4_count 132 = .ok (.getfield 10, 3) := by decide +kernel
theorem dX4_count_135 : decode cX4_count 135 = .ok (.invokevirtual 127, 3) := by decide +kernel
theorem dX4_count_138 : decode cX4_count 138 = .ok (.invokestatic 130, 3) := by decide +kernel
theorem dX4_count_141 : decode cX4_count 141 = .ok (.ireturn, 1) := by decide +kernel
theorem dX4_count_142 : decode cX4_count 142 = .ok (.aload_n 0, 1) := by decide +kernel
theorem dX4_count_143 : decode cX4_count 143 = .ok (.getfield 10, 3) := by decide +kernel
theorem dX4_count_146 : decode cX4_count 146 = .ok (.invokevirtual 134, 3) := by decide +kernel
theorem dX4_count_149 : decode cX4_count 149 = .ok (.ireturn, 1) := by decide +kernel
theorem dX4_count_150 : decode cX4_count 150 = .ok (.aload_n 0, 1) := by decide +kernel
theorem dX4_count_151 : decode cX4_count 151 = .ok (.getfield 10, 3) := by decide +kernel
theorem dX4_count_154 : decode cX4_count 154 = .ok (.invokevirtual 137, 3) := by decide +kernel
theorem dX4_count_157 : decode cX4_count 157 = .ok (.ireturn, 1) := by decide +kernel
theorem dX4_count_158 : decode cX4_count 158 = .ok (.aload_n 0, 1) := by decide +kernel
theorem dX4_count_159 : decode cX4_count 159 = .ok (.getfield 10, 3) := by decide +kernel
theorem dX4_count_162 : decode cX4_count 162 = .ok (.invokevirtual 140, 3) := by decide +kernel
theorem dX4_count_165 : decode cX4_count 165 = .ok (.ifCond .eq 7, 3) := by decide +kernel
theorem dX4_count_168 : decode cX4_count 168 = .ok (.iconst 1, 1) := by decide +kernel
theorem dX4_count_169 : decode cX4_count 169 = .ok (.goto 4, 3) := by decide +kernel
theorem dX4_count_172 : decode cX4_count 172 = .ok (.iconst 0, 1) := by decide +kernel
theorem dX4_count_173 : decode cX4_count 173 = .ok (.ireturn, 1) := by decide +kernel
theorem dX4_count_174 : decode cX4_count 174 = .ok (.aload_n 0, 1) := by decide +kernel
theorem dX4_count_175 : decode cX4_count 175 = .ok (.getfield 10, 3) := by decide +kernel
theorem dX4_count_178 : decode cX4_count 178 = .ok (.getfield 144, 3) := by decide +kernel
theorem dX4_count_181 : decode cX4_count 181 = .ok (.ireturn, 1) := by decide +kernel
theorem dX4_count_182 : decode cX4_count 182 = .ok (.aload_n 0, 1) := by decide +kernel
theorem dX4_count_183 : decode cX4_count 183 = .ok (.getfield 10, 3) := by decide +kernel
theorem dX4_count_186 : decode cX4_count 186 = .ok (.getfield 147, 3) := by decide +kernel
theorem dX4_count_189 : decode cX4_count 189 = .ok (.ireturn, 1) := by decide +kernel
theorem dX4_count_190 : decode cX4_count 190 = .ok (.aload_n 0, 1) := by decide +kernel
theorem dX4_count_191 : decode cX4_count 191 = .ok (.getfield 10, 3) := by decide +kernel
theorem dX4_count_194 : decode cX4_count 194 = .ok (.getfield 150, 3) := by decide +kernel
theorem dX4_count_197 : decode cX4_count 197 = .ok (.ireturn, 1) := by decide +kernel
theorem dX4_count_198 : decode cX4_count 198 = .ok (.aload_n 0, 1) := by decide +kernel
theorem dX4_count_199 : decode cX4_count 199 = .ok (.getfield 25, 3) := by decide +kernel
theorem dX4_count_202 : decode cX4_count 202 = .ok (.getfield 92, 3) := by decide +kernel
theorem dX4_count_205 : decode cX4_count 205 = .ok (.ireturn, 1) := by decide +kernel
theorem dX4_count_206 : decode cX4_count 206 = .ok (.aload_n 0, 1) := by decide +kernel
theorem dX4_count_207 : decode cX4_count 207 = .ok (.getfield 39, 3) := by decide +kernel
theorem dX4_count_210 : decode cX4_count 210 = .ok (.getfield 99, 3) := by decide +kernel
theorem dX4_count_213 : decode cX4_count 213 = .ok (.ireturn, 1) := by decide +kernel
theorem dX4_count_214 : decode cX4_count 214 = .ok (.iconst (-1), 1) := by decide +kernel
theorem dX4_count_215 : decode cX4_count 215 = .ok (.ireturn, 1) := by decide +kernel
set_option maxRecDepth 20000 in
theorem ggX4_server_X0_hasServer : GoodIn wsX4_server wsX0_hasServer := goodIn_r _ [6, 7, 36, 37, 38, 39, 40, 41, 42, 43, 44, 45, 46, 47, 48] (by decide +kernel) (by decide +kernel)
set_option maxRecDepth 20000 in
theorem gX4_server_X0_hasServer : GoodIn wsX4_server (wsV RX4 153 RX0 yX0_hasServer wsX0_hasServer) := goodIn_app (goodIn_of _ (by decide +kernel)) ggX4_server_X0_hasServer
set_option maxRecDepth 20000 in
theorem ggX4_server_X0_isOpen : GoodIn wsX4_server wsX0_isOpen := goodIn_r _ [11, 12, 13, 14, 15, 36, 37, 38, 39, 40, 41, 42, 43, 44, 45, 46, 47, 48] (by decide +kernel) (by decide +kernel)
set_option maxRecDepth 20000 in
theorem gX4_server_X0_isOpen : GoodIn wsX4_server (wsV RX4 157 RX0 yX0_isOpen wsX0_isOpen) := goodIn_app (goodIn_of _ (by decide +kernel)) ggX4_server_X0_isOpen
set_option maxRecDepth 20000 in
theorem ggX4_server_X4_at : GoodIn wsX4_server wsX4_at := goodIn_r _ [15] (by decide +kernel) (by decide +kernel)
set_option maxRecDepth 20000 in
theorem gX4_server_X4_at : GoodIn wsX4_server (va_wsS RX4 130 yX4_at wsX4_at) := goodIn_app (goodIn_of _ (by decide +kernel)) ggX4_server_X4_at
set_option maxRecDepth 20000 in
theorem ggX4_server_X0_jobsOn : GoodIn wsX4_server wsX0_jobsOn := goodIn_r _ [20, 21, 22, 13, 14, 15, 36, 37, 38, 39, 40, 41, 42, 43, 44, 45, 46, 47, 48] (by decide +kernel) (by decide +kernel)
set_option maxRecDepth 20000 in
theorem gX4_server_X0_jobsOn : GoodIn wsX4_server (wsV RX4 160 RX0 yX0_jobsOn wsX0_jobsOn) := goodIn_app (goodIn_of _ (by decide +kernel)) ggX4_server_X0_jobsOn
set_option maxRecDepth 20000 in
theorem ggX4_server_J6_bitCount_0f7a4 : GoodIn wsX4_server wsJ6_bitCount_0f7a4 := goodIn_r _ [26, 27, 28, 29] (by decide +kernel) (by decide +kernel)
set_option maxRecDepth 20000 in
theorem gX4_server_J6_bitCount_0f7a4 : GoodIn wsX4_server (va_wsS RX4 163 yJ6_bitCount_0f7a4 wsJ6_bitCount_0f7a4) := goodIn_app (goodIn_of _ (by decide +kernel)) ggX4_server_J6_bitCount_0f7a4
theorem dX4_server_0 : decode cX4_server 0 = .ok (.aload_n 0, 1) := by decide +kernel
theorem dX4_server_1 : decode cX4_server 1 = .ok (.getfield 10, 3) := by decide +kernel
theorem dX4_server_4 : decode cX4_server 4 = .ok (.iload_n 1, 1) := by decide +kernel
theorem dX4_server_5 : decode cX4_server 5 = .ok (.invokevirtual 153, 3) := by decide +kernel
theorem dX4_server_8 : decode cX4_server 8 = .ok (.ifCond .ne 5, 3) := by decide +kernel
theorem dX4_server_11 : decode cX4_server 11 = .ok (.iconst (-1), 1) := by decide +kernel
theorem dX4_server_12 : decode cX4_server 12 = .ok (.ireturn, 1) := by decide +kernel
theorem dX4_server_13 : decode cX4_server 13 = .ok (.iload_n 2, 1) := by decide +kernel
theorem dX4_server_14 : decode cX4_server 14 = .ok (.tableswitch 122 0 4 #[34, 51, 63, 75, 113], 34) := by decide +kernel
theorem dX4_server_48 : decode cX4_server 48 = .ok (.aload_n 0, 1) := by decide +kernel
theorem dX4_server_49 : decode cX4_server 49 = .ok (.getfield 10, 3) := by decide +kernel
theorem dX4_server_52 : decode cX4_server 52 = .ok (.iload_n 1, 1) := by decide +kernel
theorem dX4_server_53 : decode cX4_server 53 = .ok (.invokevirtual 157, 3) := by decide +kernel
theorem dX4_server_56 : decode cX4_server 56 = .ok (.ifCond .eq 7, 3) := by decide +kernel
theorem dX4_server_59 : decode cX4_server 59 = .ok (.iconst 1, 1) := by decide +kernel
theorem dX4_server_60 : decode cX4_server 60 = .ok (.goto 4, 3) := by decide +kernel
theorem dX4_server_63 : decode cX4_server 63 = .ok (.iconst 0, 1) := by decide +kernel
theorem dX4_server_64 : decode cX4_server 64 = .ok (.ireturn, 1) := by decide +kernel
theorem dX4_server_65 : decode cX4_server 65 = .ok (.aload_n 0, 1) := by decide +kernel
theorem dX4_server_66 : decode cX4_server 66 = .ok (.getfield 10, 3) := by decide +kernel
theorem dX4_server_69 : decode cX4_server 69 = .ok (.getfield 123, 3) := by decide +kernel
theorem dX4_server_72 : decode cX4_server 72 = .ok (.iload_n 1, 1) := by decide +kernel
theorem dX4_server_73 : decode cX4_server 73 = .ok (.invokestatic 130, 3) := by decide +kernel
theorem dX4_server_76 : decode cX4_server 76 = .ok (.ireturn, 1) := by decide +kernel
theorem dX4_server_77 : decode cX4_server 77 = .ok (.aload_n 0, 1) := by decide +kernel
theorem dX4_server_78 : decode cX4_server 78 = .ok (.getfield 10, 3) := by decide +kernel
theorem dX4_server_81 : decode cX4_server 81 = .ok (.iload_n 1, 1) := by decide +kernel
theorem dX4_server_82 : decode cX4_server 82 = .ok (.invokevirtual 160, 3) := by decide +kernel
theorem dX4_server_85 : decode cX4_server 85 = .ok (.invokestatic 163, 3) := by decide +kernel
theorem dX4_server_88 : decode cX4_server 88 = .ok (.ireturn, 1) := by decide +kernel
theorem dX4_server_89 : decode cX4_server 89 = .ok (.aload_n 0, 1) := by decide +kernel
theorem dX4_server_90 : decode cX4_server 90 = .ok (.getfield 10, 3) := by decide +kernel
theorem dX4_server_93 : decode cX4_server 93 = .ok (.getfield 117, 3) := by decide +kernel
theorem dX4_server_96 : decode cX4_server 96 = .ok (.ifCond .le 29, 3) := by decide +kernel
theorem dX4_server_99 : decode cX4_server 99 = .ok (.aload_n 0, 1) := by decide +kernel
theorem dX4_server_100 : decode cX4_server 100 = .ok (.getfield 10, 3) := by decide +kernel
theorem dX4_server_103 : decode cX4_server 103 = .ok (.getfield 123, 3) := by decide +kernel
theorem dX4_server_106 : decode cX4_server 106 = .ok (.iload_n 1, 1) := by decide +kernel
theorem dX4_server_107 : decode cX4_server 107 = .ok (.invokestatic 130, 3) := by decide +kernel
theorem dX4_server_110 : decode cX4_server 110 = .ok (.sipush 1000, 3) := by decide +kernel
theorem dX4_server_113 : decode cX4_server 113 = .ok (.imul, 1) := by decide +kernel
theorem dX4_server_114 : decode cX4_server 114 = .ok (.aload_n 0, 1) := by decide +kernel
theorem dX4_server_115 : decode cX4_server 115 = .ok (.getfield 10, 3) := by decide +kernel
theorem dX4_server_118 : decode cX4_server 118 = .ok (.getfield 117, 3) := by decide +kernel
theorem dX4_server_121 : decode cX4_server 121 = .ok (.idiv, 1) := by decide +kernel
theorem dX4_server_122 : decode cX4_server 122 = .ok (.goto 4, 3) := by decide +kernel
theorem dX4_server_125 : decode cX4_server 125 = .ok (.iconst 0, 1) := by decide +kernel
theorem dX4_server_126 : decode cX4_server 126 = .ok (.ireturn, 1) := by decide +kernel
theorem dX4_server_127 : decode cX4_server 127 = .ok (.aload_n 0, 1) := by decide +kernel
theorem dX4_server_128 : decode cX4_server 128 = .ok (.getfield 10, 3) := by decide +kernel
theorem dX4_server_131 : decode cX4_server 131 = .ok (.iload_n 1, 1) := by decide +kernel
theorem dX4_server_132 : decode cX4_server 132 = .ok (.invokevirtual 160, 3) := by decide +kernel
theorem dX4_server_135 : decode cX4_server 135 = .ok (.ireturn, 1) := by decide +kernel
theorem dX4_server_136 : decode cX4_server 136 = .ok (.iconst (-1), 1) := by decide +kernel
theorem dX4_server_137 : decode cX4_server 137 = .ok (.ireturn, 1) := by decide +kernel
set_option maxRecDepth 20000 in
theorem ggX4_job_X0_hasJob : GoodIn wsX4_job wsX0_hasJob := goodIn_r _ [6, 7, 18, 19, 20, 21, 22, 23, 24, 25, 26, 27, 28, 29, 30] (by decide +kernel) (by decide +kernel)
set_option maxRecDepth 20000 in
theorem gX4_job_X0_hasJob : GoodIn wsX4_job (wsV RX4 168 RX0 yX0_hasJob wsX0_hasJob) := goodIn_app (goodIn_of _ (by decide +kernel)) ggX4_job_X0_hasJob
set_option maxRecDepth 20000 in
theorem ggX4_job_X4_at : GoodIn wsX4_job wsX4_at := goodIn_r _ [11] (by decide +kernel) (by decide +kernel)
set_option maxRecDepth 20000 in
theorem gX4_job_X4_at : GoodIn wsX4_job (va_wsS RX4 130 yX4_at wsX4_at) := goodIn_app (goodIn_of _ (by decide +kernel)) ggX4_job_X4_at
theorem dX4_job_0 : decode cX4_job 0 = .ok (.aload_n 0, 1) := by decide +kernel
theorem dX4_job_1 : decode cX4_job 1 = .ok (.getfield 10, 3) := by decide +kernel
theorem dX4_job_4 : decode cX4_job 4 = .ok (.iload_n 1, 1) := by decide +kernel
theorem dX4_job_5 : decode cX4_job 5 = .ok (.invokevirtual 168, 3) := by decide +kernel
theorem dX4_job_8 : decode cX4_job 8 = .ok (.ifCond .ne 5, 3) := by decide +kernel
theorem dX4_job_11 : decode cX4_job 11 = .ok (.iconst (-1), 1) := by decide +kernel
theorem dX4_job_12 : decode cX4_job 12 = .ok (.ireturn, 1) := by decide +kernel
theorem dX4_job_13 : decode cX4_job 13 = .ok (.iload_n 2, 1) := by decide +kernel
theorem dX4_job_14 : decode cX4_job 14 = .ok (.tableswitch 78 0 3 #[30, 42, 54, 66], 30) := by decide +kernel
theorem dX4_job_44 : decode cX4_job 44 = .ok (.aload_n 0, 1) := by decide +kernel
theorem dX4_job_45 : decode cX4_job 45 = .ok (.getfield 10, 3) := by decide +kernel
theorem dX4_job_48 : decode cX4_job 48 = .ok (.getfield 171, 3) := by decide +kernel
theorem dX4_job_51 : decode cX4_job 51 = .ok (.iload_n 1, 1) := by decide +kernel
theorem dX4_job_52 : decode cX4_job 52 = .ok (.invokestatic 130, 3) := by decide +kernel
theorem dX4_job_55 : decode cX4_job 55 = .ok (.ireturn, 1) := by decide +kernel
theorem dX4_job_56 : decode cX4_job 56 = .ok (.aload_n 0, 1) := by decide +kernel
theorem dX4_job_57 : decode cX4_job 57 = .ok (.getfield 10, 3) := by decide +kernel
theorem dX4_job_60 : decode cX4_job 60 = .ok (.getfield 174, 3) := by decide +kernel
theorem dX4_job_63 : decode cX4_job 63 = .ok (.iload_n 1, 1) := by decide +kernel
theorem dX4_job_64 : decode cX4_job 64 = .ok (.invokestatic 130, 3) := by decide +kernel
theorem dX4_job_67 : decode cX4_job 67 = .ok (.ireturn, 1) := by decide +kernel
theorem dX4_job_68 : decode cX4_job 68 = .ok (.aload_n 0, 1) := by decide +kernel
theorem dX4_job_69 : decode cX4_job 69 = .ok (.getfield 10, 3) := by decide +kernel
theorem dX4_job_72 : decode cX4_job 72 = .ok (.getfield 177, 3) := by decide +kernel
theorem dX4_job_75 : decode cX4_job 75 = .ok (.iload_n 1, 1) := by decide +kernel
theorem dX4_job_76 : decode cX4_job 76 = .ok (.invokestatic 130, 3) := by decide +kernel
theorem dX4_job_79 : decode cX4_job 79 = .ok (.ireturn, 1) := by decide +kernel
theorem dX4_job_80 : decode cX4_job 80 = .ok (.aload_n 0, 1) := by decide +kernel
theorem dX4_job_81 : decode cX4_job 81 = .ok (.getfield 10, 3) := by decide +kernel
theorem dX4_job_84 : decode cX4_job 84 = .ok (.getfield 180, 3) := by decide +kernel
theorem dX4_job_87 : decode cX4_job 87 = .ok (.iload_n 1, 1) := by decide +kernel
theorem dX4_job_88 : decode cX4_job 88 = .ok (.invokestatic 130, 3) := by decide +kernel
theorem dX4_job_91 : decode cX4_job 91 = .ok (.ireturn, 1) := by decide +kernel
theorem dX4_job_92 : decode cX4_job 92 = .ok (.iconst (-1), 1) := by decide +kernel
theorem dX4_job_93 : decode cX4_job 93 = .ok (.ireturn, 1) := by decide +kernel
set_option maxRecDepth 20000 in
theorem ggX4_leaving_X0_hasServer : GoodIn wsX4_leaving wsX0_hasServer := goodIn_r _ [6, 7, 33, 34, 35, 36, 37, 38, 39, 40, 41, 42, 43, 44, 45] (by decide +kernel) (by decide +kernel)
set_option maxRecDepth 20000 in
theorem gX4_leaving_X0_hasServer : GoodIn wsX4_leaving (wsV RX4 153 RX0 yX0_hasServer wsX0_hasServer) := goodIn_app (goodIn_of _ (by decide +kernel)) ggX4_leaving_X0_hasServer
set_option maxRecDepth 20000 in
theorem ggX4_leaving_X0_leavingJob : GoodIn wsX4_leaving wsX0_leavingJob := goodIn_r _ [11, 12, 13, 14, 15, 16, 17, 18, 19, 5, 20, 21, 22, 23, 24, 25, 26, 33, 34, 35, 36, 37, 38, 39, 40, 41, 42, 43, 44, 45] (by decide +kernel) (by decide +kernel)
set_option maxRecDepth 20000 in
theorem gX4_leaving_X0_leavingJob : GoodIn wsX4_leaving (wsV RX4 183 RX0 yX0_leavingJob wsX0_leavingJob) := goodIn_app (goodIn_of _ (by decide +kernel)) ggX4_leaving_X0_leavingJob
theorem dX4_leaving_0 : decode cX4_leaving 0 = .ok (.aload_n 0, 1) := by decide +kernel
theorem dX4_leaving_1 : decode cX4_leaving 1 = .ok (.getfield 10, 3) := by decide +kernel
theorem dX4_leaving_4 : decode cX4_leaving 4 = .ok (.iload_n 1, 1) := by decide +kernel
theorem dX4_leaving_5 : decode cX4_leaving 5 = .ok (.invokevirtual 153, 3) := by decide +kernel
theorem dX4_leaving_8 : decode cX4_leaving 8 = .ok (.ifCond .eq 7, 3) := by decide +kernel
theorem dX4_leaving_11 : decode cX4_leaving 11 = .ok (.iload_n 2, 1) := by decide +kernel
theorem dX4_leaving_12 : decode cX4_leaving 12 = .ok (.ifCond .ge 5, 3) := by decide +kernel
theorem dX4_leaving_15 : decode cX4_leaving 15 = .ok (.iconst (-1), 1) := by decide +kernel
theorem dX4_leaving_16 : decode cX4_leaving 16 = .ok (.ireturn, 1) := by decide +kernel
theorem dX4_leaving_17 : decode cX4_leaving 17 = .ok (.aload_n 0, 1) := by decide +kernel
theorem dX4_leaving_18 : decode cX4_leaving 18 = .ok (.getfield 10, 3) := by decide +kernel
theorem dX4_leaving_21 : decode cX4_leaving 21 = .ok (.iload_n 1, 1) := by decide +kernel
theorem dX4_leaving_22 : decode cX4_leaving 22 = .ok (.iload_n 2, 1) := by decide +kernel
theorem dX4_leaving_23 : decode cX4_leaving 23 = .ok (.invokevirtual 183, 3) := by decide +kernel
theorem dX4_leaving_26 : decode cX4_leaving 26 = .ok (.ireturn, 1) := by decide +kernel
set_option maxRecDepth 20000 in
theorem ggX4_step_X0_target : GoodIn wsX4_step wsX0_target := goodIn_r _ [7, 8, 9, 10, 11, 6, 12, 13, 14, 15, 16, 17, 18, 19, 20, 21, 22, 23, 24, 74, 75, 76, 77, 78, 79, 80, 81, 82, 83, 84, 85, 86] (by decide +kernel) (by decide +kernel)
set_option maxRecDepth 20000 in
theorem gX4_step_X0_target : GoodIn wsX4_step (wsV RX4 137 RX0 yX0_target wsX0_target) := goodIn_app (goodIn_of _ (by decide +kernel)) ggX4_step_X0_target
set_option maxRecDepth 20000 in
theorem ggX4_step_X3_choose : GoodIn wsX4_step wsX3_choose := goodIn_r _ [29, 30, 31, 32, 6, 33, 34, 35, 36, 22, 23, 24, 37, 38, 39, 28, 40, 41, 17, 18, 19, 42, 43, 44, 45, 46, 47, 48, 49, 50, 51, 52, 53, 54, 55, 56, 57, 58, 59, 60, 61, 62, 74, 75, 76, 77, 78, 79, 80, 81, 82, 83, 84, 85, 86, 69, 70, 71, 72, 73] (by decide +kernel) (by decide +kernel)
set_option maxRecDepth 20000 in
theorem gX4_step_X3_choose : GoodIn wsX4_step (wsV RX4 186 RX3 yX3_choose wsX3_choose) := goodIn_app (goodIn_of _ (by decide +kernel)) ggX4_step_X3_choose
theorem dX4_step_0 : decode cX4_step 0 = .ok (.iload_n 1, 1) := by decide +kernel
theorem dX4_step_1 : decode cX4_step 1 = .ok (.ifCond .lt 8, 3) := by decide +kernel
theorem dX4_step_4 : decode cX4_step 4 = .ok (.iload_n 1, 1) := by decide +kernel
theorem dX4_step_5 : decode cX4_step 5 = .ok (.iconst 3, 1) := by decide +kernel
theorem dX4_step_6 : decode cX4_step 6 = .ok (.if_icmp .le 5, 3) := by decide +kernel
theorem dX4_step_9 : decode cX4_step 9 = .ok (.iconst (-1), 1) := by decide +kernel
theorem dX4_step_10 : decode cX4_step 10 = .ok (.ireturn, 1) := by decide +kernel
theorem dX4_step_11 : decode cX4_step 11 = .ok (.aload_n 0, 1) := by decide +kernel
theorem dX4_step_12 : decode cX4_step 12 = .ok (.getfield 32, 3) := by decide +kernel
theorem dX4_step_15 : decode cX4_step 15 = .ok (.aload_n 0, 1) := by decide +kernel
theorem dX4_step_16 : decode cX4_step 16 = .ok (.getfield 10, 3) := by decide +kernel
theorem dX4_step_19 : decode cX4_step 19 = .ok (.aload_n 0, 1) := by decide +kernel
theorem dX4_step_20 : decode cX4_step 20 = .ok (.getfield 10, 3) := by decide +kernel
theorem dX4_step_23 : decode cX4_step 23 = .ok (.invokevirtual 137, 3) := by decide +kernel
theorem dX4_step_26 : decode cX4_step 26 = .ok (.invokevirtual 186, 3) := by decide +kernel
theorem dX4_step_29 : decode cX4_step 29 = .ok (.ifCond .ne 6, 3) := by decide +kernel
theorem dX4_step_32 : decode cX4_step 32 = .ok (.bipush (-9), 2) := by decide +kernel
theorem dX4_step_34 : decode cX4_step 34 = .ok (.ireturn, 1) := by decide +kernel
theorem dX4_step_35 : decode cX4_step 35 = .ok (.iload_n 1, 1) := by decide +kernel
theorem dX4_step_36 : decode cX4_step 36 = .ok (.tableswitch 52 0 2 #[28, 36, 44], 28) := by decide +kernel
theorem dX4_step_64 : decode cX4_step 64 = .ok (.aload_n 0, 1) := by decide +kernel
theorem dX4_step_65 : decode cX4_step 65 = .ok (.getfield 32, 3) := by decide +kernel
theorem dX4_step_68 : decode cX4_step 68 = .ok (.getfield 190, 3) := by decide +kernel
theorem dX4_step_71 : decode cX4_step 71 = .ok (.ireturn, 1) := by decide +kernel
theorem dX4_step_72 : decode cX4_step 72 = .ok (.aload_n 0, 1) := by decide +kernel
theorem dX4_step_73 : decode cX4_step 73 = .ok (.getfield 32, 3) := by decide +kernel
theorem dX4_step_76 : decode cX4_step 76 = .ok (.getfield 193, 3) := by decide +kernel
theorem dX4_step_79 : decode cX4_step 79 = .ok (.ireturn, 1) := by decide +kernel
theorem dX4_step_80 : decode cX4_step 80 = .ok (.aload_n 0, 1) := by decide +kernel
theorem dX4_step_81 : decode cX4_step 81 = .ok (.getfield 32, 3) := by decide +kernel
theorem dX4_step_84 : decode cX4_step 84 = .ok (.getfield 196, 3) := by decide +kernel
theorem dX4_step_87 : decode cX4_step 87 = .ok (.ireturn, 1) := by decide +kernel
theorem dX4_step_88 : decode cX4_step 88 = .ok (.aload_n 0, 1) := by decide +kernel
theorem dX4_step_89 : decode cX4_step 89 = .ok (.getfield 32, 3) := by decide +kernel
theorem dX4_step_92 : decode cX4_step 92 = .ok (.getfield 199, 3) := by decide +kernel
theorem dX4_step_95 : decode cX4_step 95 = .ok (.ireturn, 1) := by decide +kernel
set_option maxRecDepth 20000 in
theorem ggX4_plan_X0_copyFrom : GoodIn wsX4_plan wsX0_copyFrom := goodIn_r _ [8, 9, 10, 11, 12, 13, 14, 15, 16, 17, 18, 19, 20, 21, 22, 23, 24, 25, 26, 27, 28, 29, 30, 31, 32, 112, 113, 114, 115, 116, 117, 118, 119, 120, 121, 122, 123, 124] (by decide +kernel) (by decide +kernel)
set_option maxRecDepth 20000 in
theorem gX4_plan_X0_copyFrom : GoodIn wsX4_plan (wsV RX4 43 RX0 yX0_copyFrom wsX0_copyFrom) := goodIn_app (goodIn_of _ (by decide +kernel)) ggX4_plan_X0_copyFrom
set_option maxRecDepth 20000 in
theorem ggX4_plan_X3_walk : GoodIn wsX4_plan wsX3_walk := goodIn_r _ [37, 38, 39, 40, 41, 42, 43, 7, 44, 20, 45, 46, 47, 48, 17, 11, 9, 49, 50, 27, 51, 16, 18, 52, 23, 53, 54, 55, 56, 36, 57, 58, 59, 60, 61, 15, 13, 14, 62, 63, 64, 65, 66, 67, 68, 69, 70, 71, 72, 73, 74, 75, 76, 77, 78, 79, 80, 81, 82, 83, 84, 85, 86, 87, 88, 12, 21, 19, 10, 89, 90, 91, 92, 93, 94, 112, 113, 114, 115, 116, 117, 118, 119, 120, 121, 122, 123, 124, 125, 126, 127, 128, 129] (by decide +kernel) (by decide +kernel)
set_option maxRecDepth 20000 in
theorem gX4_plan_X3_walk : GoodIn wsX4_plan (wsV RX4 78 RX3 yX3_walk wsX3_walk) := goodIn_app (goodIn_of _ (by decide +kernel)) ggX4_plan_X3_walk
set_option maxRecDepth 20000 in
theorem ggX4_plan_X0_greatestLoad : GoodIn wsX4_plan wsX0_greatestLoad := goodIn_r _ [98, 13, 99, 59, 60, 7, 61, 15, 14, 52, 23, 53, 112, 113, 114, 115, 116, 117, 118, 119, 120, 121, 122, 123, 124] (by decide +kernel) (by decide +kernel)
set_option maxRecDepth 20000 in
theorem gX4_plan_X0_greatestLoad : GoodIn wsX4_plan (wsV RX4 120 RX0 yX0_greatestLoad wsX0_greatestLoad) := goodIn_app (goodIn_of _ (by decide +kernel)) ggX4_plan_X0_greatestLoad
set_option maxRecDepth 20000 in
theorem ggX4_plan_X0_isEven : GoodIn wsX4_plan wsX0_isEven := goodIn_r _ [103, 104, 96, 97, 7, 98, 13, 99, 59, 60, 61, 15, 14, 52, 23, 53, 105, 42, 43, 44, 20, 45, 46, 47, 48, 17, 11, 9, 49, 50, 27, 51, 16, 18, 112, 113, 114, 115, 116, 117, 118, 119, 120, 121, 122, 123, 124] (by decide +kernel) (by decide +kernel)
set_option maxRecDepth 20000 in
theorem gX4_plan_X0_isEven : GoodIn wsX4_plan (wsV RX4 140 RX0 yX0_isEven wsX0_isEven) := goodIn_app (goodIn_of _ (by decide +kernel)) ggX4_plan_X0_isEven
theorem dX4_plan_0 : decode cX4_plan 0 = .ok (.iload_n 1, 1) := by decide +kernel
theorem dX4_plan_1 : decode cX4_plan 1 = .ok (.ifCond .lt 8, 3) := by decide +kernel
theorem dX4_plan_4 : decode cX4_plan 4 = .ok (.iload_n 1, 1) := by decide +kernel
theorem dX4_plan_5 : decode cX4_plan 5 = .ok (.iconst 4, 1) := by decide +kernel
theorem dX4_plan_6 : decode cX4_plan 6 = .ok (.if_icmp .le 5, 3) := by decide +kernel
theorem dX4_plan_9 : decode cX4_plan 9 = .ok (.iconst (-1), 1) := by decide +kernel
theorem dX4_plan_10 : decode cX4_plan 10 = .ok (.ireturn, 1) := by decide +kernel
theorem dX4_plan_11 : decode cX4_plan 11 = .ok (.aload_n 0, 1) := by decide +kernel
theorem dX4_plan_12 : decode cX4_plan 12 = .ok (.getfield 19, 3) := by decide +kernel
theorem dX4_plan_15 : decode cX4_plan 15 = .ok (.aload_n 0, 1) := by decide +kernel
theorem dX4_plan_16 : decode cX4_plan 16 = .ok (.getfield 10, 3) := by decide +kernel
theorem dX4_plan_19 : decode cX4_plan 19 = .ok (.invokevirtual 43, 3) := by decide +kernel
theorem dX4_plan_22 : decode cX4_plan 22 = .ok (.aload_n 0, 1) := by decide +kernel
theorem dX4_plan_23 : decode cX4_plan 23 = .ok (.getfield 32, 3) := by decide +kernel
theorem dX4_plan_26 : decode cX4_plan 26 = .ok (.aload_n 0, 1) := by decide +kernel
theorem dX4_plan_27 : decode cX4_plan 27 = .ok (.getfield 19, 3) := by decide +kernel
theorem dX4_plan_30 : decode cX4_plan 30 = .ok (.bipush 30, 2) := by decide +kernel
theorem dX4_plan_32 : decode cX4_plan 32 = .ok (.invokevirtual 78, 3) := by decide +kernel
theorem dX4_plan_35 : decode cX4_plan 35 = .ok (.istore_n 2, 1) := by decide +kernel
theorem dX4_plan_36 : decode cX4_plan 36 = .ok (.iload_n 1, 1) := by decide +kernel
theorem dX4_plan_37 : decode cX4_plan 37 = .ok (.tableswitch 73 0 3 #[31, 33, 49, 65], 31) := by decide +kernel
theorem dX4_plan_68 : decode cX4_plan 68 = .ok (.iload_n 2, 1) := by decide +kernel
theorem dX4_plan_69 : decode cX4_plan 69 = .ok (.ireturn, 1) := by decide +kernel
theorem dX4_plan_70 : decode cX4_plan 70 = .ok (.aload_n 0, 1) := by decide +kernel
theorem dX4_plan_71 : decode cX4_plan 71 = .ok (.getfield 19, 3) := by decide +kernel
theorem dX4_plan_74 : decode cX4_plan 74 = .ok (.getfield 150, 3) := by decide +kernel
theorem dX4_plan_77 : decode cX4_plan 77 = .ok (.aload_n 0, 1) := by decide +kernel
theorem dX4_plan_78 : decode cX4_plan 78 = .ok (.getfield 10, 3) := by decide +kernel
theorem dX4_plan_81 : decode cX4_plan 81 = .ok (.getfield 150, 3) := by decide +kernel
theorem dX4_plan_84 : decode cX4_plan 84 = .ok (.isub, 1) := by decide +kernel
theorem dX4_plan_85 : decode cX4_plan 85 = .ok (.ireturn, 1) := by decide +kernel
theorem dX4_plan_86 : decode cX4_plan 86 = .ok (.aload_n 0, 1) := by decide +kernel
theorem dX4_plan_87 : decode cX4_plan 87 = .ok (.getfield 10, 3) := by decide +kernel
theorem dX4_plan_90 : decode cX4_plan 90 = .ok (.getfield 144, 3) := by decide +kernel
theorem dX4_plan_93 : decode cX4_plan 93 = .ok (.aload_n 0, 1) := by decide +kernel
theorem dX4_plan_94 : decode cX4_plan 94 = .ok (.getfield 19, 3) := by decide +kernel
theorem dX4_plan_97 : decode cX4_plan 97 = .ok (.getfield 144, 3) := by decide +kernel
theorem dX4_plan_100 : decode cX4_plan 100 = .ok (.isub, 1) := by decide +kernel
theorem dX4_plan_101 : decode cX4_plan 101 = .ok (.ireturn, 1) := by decide +kernel
theorem dX4_plan_102 : decode cX4_plan 102 = .ok (.aload_n 0, 1) := by decide +kernel
theorem dX4_plan_103 : decode cX4_plan 103 = .ok (.getfield 19, 3) := by decide +kernel
theorem dX4_plan_106 : decode cX4_plan 106 = .ok (.invokevirtual 120, 3) := by decide +kernel
theorem dX4_plan_109 : decode cX4_plan 109 = .ok (.ireturn, 1) := by decide +kernel
theorem dX4_plan_110 : decode cX4_plan 110 = .ok (.aload_n 0, 1) := by decide +kernel
theorem dX4_plan_111 : decode cX4_plan 111 = .ok (.getfield 19, 3) := by decide +kernel
theorem dX4_plan_114 : decode cX4_plan 114 = .ok (.invokevirtual 140, 3) := by decide +kernel
theorem dX4_plan_117 : decode cX4_plan 117 = .ok (.ifCond .eq 7, 3) := by decide +kernel
theorem dX4_plan_120 : decode cX4_plan 120 = .ok (.iconst 1, 1) := by decide +kernel
theorem dX4_plan_121 : decode cX4_plan 121 = .ok (.goto 4, 3) := by decide +kernel
theorem dX4_plan_124 : decode cX4_plan 124 = .ok (.iconst 0, 1) := by decide +kernel
theorem dX4_plan_125 : decode cX4_plan 125 = .ok (.ireturn, 1) := by decide +kernel
set_option maxRecDepth 20000 in
theorem ggX4_fewest_X0_copyFrom : GoodIn wsX4_fewest wsX0_copyFrom := goodIn_r _ [7, 8, 9, 10, 11, 12, 13, 14, 15, 16, 17, 18, 19, 20, 21, 22, 23, 24, 25, 26, 27, 28, 29, 30, 31, 69, 70, 71, 72, 73, 74, 75, 76, 77, 78, 79, 80, 81] (by decide +kernel) (by decide +kernel)
set_option maxRecDepth 20000 in
theorem gX4_fewest_X0_copyFrom : GoodIn wsX4_fewest (wsV RX4 43 RX0 yX0_copyFrom wsX0_copyFrom) := goodIn_app (goodIn_of _ (by decide +kernel)) ggX4_fewest_X0_copyFrom
set_option maxRecDepth 20000 in
theorem ggX4_fewest_X0_target : GoodIn wsX4_fewest wsX0_target := goodIn_r _ [35, 19, 36, 37, 38, 6, 39, 16, 10, 8, 40, 41, 26, 42, 15, 17, 43, 22, 44, 69, 70, 71, 72, 73, 74, 75, 76, 77, 78, 79, 80, 81] (by decide +kernel) (by decide +kernel)
set_option maxRecDepth 20000 in
theorem gX4_fewest_X0_target : GoodIn wsX4_fewest (wsV RX4 137 RX0 yX0_target wsX0_target) := goodIn_app (goodIn_of _ (by decide +kernel)) ggX4_fewest_X0_target
set_option maxRecDepth 20000 in
theorem ggX4_fewest_X4_cheapest : GoodIn wsX4_fewest wsX4_cheapest := goodIn_r _ [47, 48, 49, 50, 6, 51, 14, 12, 43, 22, 44, 52, 53, 54, 55, 56, 13, 57, 58, 59, 60, 61, 62, 45, 46, 69, 70, 71, 72, 73, 74, 75, 76, 77, 78, 79, 80, 81] (by decide +kernel) (by decide +kernel)
set_option maxRecDepth 20000 in
theorem gX4_fewest_X4_cheapest : GoodIn wsX4_fewest (va_wsS RX4 202 yX4_cheapest wsX4_cheapest) := goodIn_app (goodIn_of _ (by decide +kernel)) ggX4_fewest_X4_cheapest
theorem dX4_fewest_0 : decode cX4_fewest 0 = .ok (.iload_n 1, 1) := by decide +kernel
theorem dX4_fewest_1 : decode cX4_fewest 1 = .ok (.ifCond .lt 8, 3) := by decide +kernel
theorem dX4_fewest_4 : decode cX4_fewest 4 = .ok (.iload_n 1, 1) := by decide +kernel
theorem dX4_fewest_5 : decode cX4_fewest 5 = .ok (.iconst 1, 1) := by decide +kernel
theorem dX4_fewest_6 : decode cX4_fewest 6 = .ok (.if_icmp .le 5, 3) := by decide +kernel
theorem dX4_fewest_9 : decode cX4_fewest 9 = .ok (.iconst (-1), 1) := by decide +kernel
theorem dX4_fewest_10 : decode cX4_fewest 10 = .ok (.ireturn, 1) := by decide +kernel
theorem dX4_fewest_11 : decode cX4_fewest 11 = .ok (.aload_n 0, 1) := by decide +kernel
theorem dX4_fewest_12 : decode cX4_fewest 12 = .ok (.getfield 19, 3) := by decide +kernel
theorem dX4_fewest_15 : decode cX4_fewest 15 = .ok (.aload_n 0, 1) := by decide +kernel
theorem dX4_fewest_16 : decode cX4_fewest 16 = .ok (.getfield 10, 3) := by decide +kernel
theorem dX4_fewest_19 : decode cX4_fewest 19 = .ok (.invokevirtual 43, 3) := by decide +kernel
theorem dX4_fewest_22 : decode cX4_fewest 22 = .ok (.aload_n 0, 1) := by decide +kernel
theorem dX4_fewest_23 : decode cX4_fewest 23 = .ok (.getfield 10, 3) := by decide +kernel
theorem dX4_fewest_26 : decode cX4_fewest 26 = .ok (.invokevirtual 137, 3) := by decide +kernel
theorem dX4_fewest_29 : decode cX4_fewest 29 = .ok (.istore_n 2, 1) := by decide +kernel
theorem dX4_fewest_30 : decode cX4_fewest 30 = .ok (.iconst 0, 1) := by decide +kernel
theorem dX4_fewest_31 : decode cX4_fewest 31 = .ok (.istore_n 3, 1) := by decide +kernel
theorem dX4_fewest_32 : decode cX4_fewest 32 = .ok (.iload_n 3, 1) := by decide +kernel
theorem dX4_fewest_33 : decode cX4_fewest 33 = .ok (.iconst 2, 1) := by decide +kernel
theorem dX4_fewest_34 : decode cX4_fewest 34 = .ok (.if_icmp .gt 39, 3) := by decide +kernel
theorem dX4_fewest_37 : decode cX4_fewest 37 = .ok (.aload_n 0, 1) := by decide +kernel
theorem dX4_fewest_38 : decode cX4_fewest 38 = .ok (.getfield 19, 3) := by decide +kernel
theorem dX4_fewest_41 : decode cX4_fewest 41 = .ok (.iload_n 2, 1) := by decide +kernel
theorem dX4_fewest_42 : decode cX4_fewest 42 = .ok (.iload_n 3, 1) := by decide +kernel
theorem dX4_fewest_43 : decode cX4_fewest 43 = .ok (.iconst 0, 1) := by decide +kernel
theorem dX4_fewest_44 : decode cX4_fewest 44 = .ok (.invokestatic 202, 3) := by decide +kernel
theorem dX4_fewest_47 : decode cX4_fewest 47 = .ok (.istore 4, 2) := by decide +kernel
theorem dX4_fewest_49 : decode cX4_fewest 49 = .ok (.iload 4, 2) := by decide +kernel
theorem dX4_fewest_51 : decode cX4_fewest 51 = .ok (.bipush (-9), 2) := by decide +kernel
theorem dX4_fewest_53 : decode cX4_fewest 53 = .ok (.if_icmp .eq 14, 3) := by decide +kernel
theorem dX4_fewest_56 : decode cX4_fewest 56 = .ok (.iload_n 1, 1) := by decide +kernel
theorem dX4_fewest_57 : decode cX4_fewest 57 = .ok (.ifCond .ne 7, 3) := by decide +kernel
theorem dX4_fewest_60 : decode cX4_fewest 60 = .ok (.iload_n 3, 1) := by decide +kernel
theorem dX4_fewest_61 : decode cX4_fewest 61 = .ok (.goto 5, 3) := by decide +kernel
theorem dX4_fewest_64 : decode cX4_fewest 64 = .ok (.iload 4, 2) := by decide +kernel
theorem dX4_fewest_66 : decode cX4_fewest 66 = .ok (.ireturn, 1) := by decide +kernel
theorem dX4_fewest_67 : decode cX4_fewest 67 = .ok (.iinc 3 1, 3) := by decide +kernel
theorem dX4_fewest_70 : decode cX4_fewest 70 = .ok (.goto (-38), 3) := by decide +kernel
theorem dX4_fewest_73 : decode cX4_fewest 73 = .ok (.bipush (-9), 2) := by decide +kernel
theorem dX4_fewest_75 : decode cX4_fewest 75 = .ok (.ireturn, 1) := by decide +kernel
set_option maxRecDepth 20000 in
theorem ggX4_without_X0_hasServer : GoodIn wsX4_without wsX0_hasServer := goodIn_r _ [7, 8, 97, 98, 99, 100, 101, 102, 103, 104, 105, 106, 107, 108, 109] (by decide +kernel) (by decide +kernel)
set_option maxRecDepth 20000 in
theorem gX4_without_X0_hasServer : GoodIn wsX4_without (wsV RX4 153 RX0 yX0_hasServer wsX0_hasServer) := goodIn_app (goodIn_of _ (by decide +kernel)) ggX4_without_X0_hasServer
set_option maxRecDepth 20000 in
theorem ggX4_without_X0_isOpen : GoodIn wsX4_without wsX0_isOpen := goodIn_r _ [12, 13, 14, 15, 16, 97, 98, 99, 100, 101, 102, 103, 104, 105, 106, 107, 108, 109] (by decide +kernel) (by decide +kernel)
set_option maxRecDepth 20000 in
theorem gX4_without_X0_isOpen : GoodIn wsX4_without (wsV RX4 157 RX0 yX0_isOpen wsX0_isOpen) := goodIn_app (goodIn_of _ (by decide +kernel)) ggX4_without_X0_isOpen
set_option maxRecDepth 20000 in
theorem ggX4_without_X0_copyFrom : GoodIn wsX4_without wsX0_copyFrom := goodIn_r _ [20, 21, 22, 23, 24, 25, 13, 8, 26, 27, 28, 29, 30, 31, 32, 15, 33, 34, 35, 36, 37, 38, 39, 40, 41, 97, 98, 99, 100, 101, 102, 103, 104, 105, 106, 107, 108, 109] (by decide +kernel) (by decide +kernel)
set_option maxRecDepth 20000 in
theorem gX4_without_X0_copyFrom : GoodIn wsX4_without (wsV RX4 43 RX0 yX0_copyFrom wsX0_copyFrom) := goodIn_app (goodIn_of _ (by decide +kernel)) ggX4_without_X0_copyFrom
set_option maxRecDepth 20000 in
theorem ggX4_without_X0_closeAndEmpty : GoodIn wsX4_without wsX0_closeAndEmpty := goodIn_r _ [45, 13, 26, 46, 15, 47, 48, 49, 50, 6, 51, 27, 23, 14, 16, 52, 53, 54, 55, 56, 57, 58, 59, 60, 61, 62, 63, 64, 65, 66, 67, 68, 69, 70, 21, 22, 71, 72, 73, 74, 8, 25, 75, 76, 77, 78, 24, 31, 29, 79, 80, 81, 82, 97, 98, 99, 100, 101, 102, 103, 104, 105, 106, 107, 108, 109] (by decide +kernel) (by decide +kernel)
set_option maxRecDepth 20000 in
theorem gX4_without_X0_closeAndEmpty : GoodIn wsX4_without (wsV RX4 206 RX0 yX0_closeAndEmpty wsX0_closeAndEmpty) := goodIn_app (goodIn_of _ (by decide +kernel)) ggX4_without_X0_closeAndEmpty
set_option maxRecDepth 20000 in
theorem ggX4_without_X0_greatestLoad : GoodIn wsX4_without wsX0_greatestLoad := goodIn_r _ [86, 25, 87, 88, 89, 6, 90, 8, 13, 14, 15, 16, 97, 98, 99, 100, 101, 102, 103, 104, 105, 106, 107, 108, 109] (by decide +kernel) (by decide +kernel)
set_option maxRecDepth 20000 in
theorem gX4_without_X0_greatestLoad : GoodIn wsX4_without (wsV RX4 120 RX0 yX0_greatestLoad wsX0_greatestLoad) := goodIn_app (goodIn_of _ (by decide +kernel)) ggX4_without_X0_greatestLoad
theorem dX4_without_0 : decode cX4_without 0 = .ok (.aload_n 0, 1) := by decide +kernel
theorem dX4_without_1 : decode cX4_without 1 = .ok (.getfield 10, 3) := by decide +kernel
theorem dX4_without_4 : decode cX4_without 4 = .ok (.iload_n 1, 1) := by decide +kernel
theorem dX4_without_5 : decode cX4_without 5 = .ok (.invokevirtual 153, 3) := by decide +kernel
theorem dX4_without_8 : decode cX4_without 8 = .ok (.ifCond .ne 5, 3) := by decide +kernel
theorem dX4_without_11 : decode cX4_without 11 = .ok (.iconst (-1), 1) := by decide +kernel
theorem dX4_without_12 : decode cX4_without 12 = .ok (.ireturn, 1) := by decide +kernel
theorem dX4_without_13 : decode cX4_without 13 = .ok (.aload_n 0, 1) := by decide +kernel
theorem dX4_without_14 : decode cX4_without 14 = .ok (.getfield 10, 3) := by decide +kernel
theorem dX4_without_17 : decode cX4_without 17 = .ok (.iload_n 1, 1) := by decide +kernel
theorem dX4_without_18 : decode cX4_without 18 = .ok (.invokevirtual 157, 3) := by decide +kernel
theorem dX4_without_21 : decode cX4_without 21 = .ok (.ifCond .eq 14, 3) := by decide +kernel
theorem dX4_without_24 : decode cX4_without 24 = .ok (.aload_n 0, 1) := by decide +kernel
theorem dX4_without_25 : decode cX4_without 25 = .ok (.getfield 10, 3) := by decide +kernel
theorem dX4_without_28 : decode cX4_without 28 = .ok (.getfield 108, 3) := by decide +kernel
theorem dX4_without_31 : decode cX4_without 31 = .ok (.iconst 1, 1) := by decide +kernel
theorem dX4_without_32 : decode cX4_without 32 = .ok (.if_icmp .gt 6, 3) := by decide +kernel
theorem dX4_without_35 : decode cX4_without 35 = .ok (.bipush (-2), 2) := by decide +kernel
theorem dX4_without_37 : decode cX4_without 37 = .ok (.ireturn, 1) := by decide +kernel
theorem dX4_without_38 : decode cX4_without 38 = .ok (.aload_n 0, 1) := by decide +kernel
theorem dX4_without_39 : decode cX4_without 39 = .ok (.getfield 19, 3) := by decide +kernel
theorem dX4_without_42 : decode cX4_without 42 = .ok (.aload_n 0, 1) := by decide +kernel
theorem dX4_without_43 : decode cX4_without 43 = .ok (.getfield 10, 3) := by decide +kernel
theorem dX4_without_46 : decode cX4_without 46 = .ok (.invokevirtual 43, 3) := by decide +kernel
theorem dX4_without_49 : decode cX4_without 49 = .ok (.aload_n 0, 1) := by decide +kernel
theorem dX4_without_50 : decode cX4_without 50 = .ok (.getfield 19, 3) := by decide +kernel
theorem dX4_without_53 : decode cX4_without 53 = .ok (.iload_n 1, 1) := by decide +kernel
theorem dX4_without_54 : decode cX4_without 54 = .ok (.invokevirtual 206, 3) := by decide +kernel
theorem dX4_without_57 : decode cX4_without 57 = .ok (.pop, 1) := by decide +kernel
theorem dX4_without_58 : decode cX4_without 58 = .ok (.aload_n 0, 1) := by decide +kernel
theorem dX4_without_59 : decode cX4_without 59 = .ok (.getfield 19, 3) := by decide +kernel
theorem dX4_without_62 : decode cX4_without 62 = .ok (.invokevirtual 120, 3) := by decide +kernel
theorem dX4_without_65 : decode cX4_without 65 = .ok (.ireturn, 1) := by decide +kernel
set_option maxRecDepth 20000 in
theorem ggX4_recorded_X1_keep : GoodIn wsX4_recorded wsX1_keep := goodIn_r _ [7, 8, 9, 10, 11, 12, 13, 14, 15, 16, 6, 17, 18, 19, 20, 21, 22, 23, 24, 25, 26, 27, 28, 29, 30, 31, 32, 33, 34, 35, 36, 37, 38, 39, 40, 41, 42, 43, 44, 51, 52, 53, 54, 55, 56, 57, 58, 59, 60, 61, 62, 63, 64, 65, 66] (by decide +kernel) (by decide +kernel)
set_option maxRecDepth 20000 in
theorem gX4_recorded_X1_keep : GoodIn wsX4_recorded (wsV RX4 209 RX1 yX1_keep wsX1_keep) := goodIn_app (goodIn_of _ (by decide +kernel)) ggX4_recorded_X1_keep
theorem dX4_recorded_0 : decode cX4_recorded 0 = .ok (.iload_n 1, 1) := by decide +kernel
theorem dX4_recorded_1 : decode cX4_recorded 1 = .ok (.ifCond .lt 14, 3) := by decide +kernel
theorem dX4_recorded_4 : decode cX4_recorded 4 = .ok (.aload_n 0, 1) := by decide +kernel
theorem dX4_recorded_5 : decode cX4_recorded 5 = .ok (.getfield 25, 3) := by decide +kernel
theorem dX4_recorded_8 : decode cX4_recorded 8 = .ok (.aload_n 0, 1) := by decide +kernel
theorem dX4_recorded_9 : decode cX4_recorded 9 = .ok (.getfield 16, 3) := by decide +kernel
theorem dX4_recorded_12 : decode cX4_recorded 12 = .ok (.invokevirtual 209, 3) := by decide +kernel
theorem dX4_recorded_15 : decode cX4_recorded 15 = .ok (.iload_n 1, 1) := by decide +kernel
theorem dX4_recorded_16 : decode cX4_recorded 16 = .ok (.ireturn, 1) := by decide +kernel
set_option maxRecDepth 20000 in
theorem ggX4_cheapest_X0_serversAbove : GoodIn wsX4_cheapest wsX0_serversAbove := goodIn_r _ [5, 6, 7, 8, 9, 10, 25, 26, 27, 28, 29, 30, 31, 32, 33, 34, 35, 36, 37] (by decide +kernel) (by decide +kernel)
set_option maxRecDepth 20000 in
theorem gX4_cheapest_X0_serversAbove : GoodIn wsX4_cheapest (wsV RX4 237 RX0 yX0_serversAbove wsX0_serversAbove) := goodIn_app (goodIn_of _ (by decide +kernel)) ggX4_cheapest_X0_serversAbove
set_option maxRecDepth 20000 in
theorem ggX4_cheapest_X4_at : GoodIn wsX4_cheapest wsX4_at := goodIn_r _ [10] (by decide +kernel) (by decide +kernel)
set_option maxRecDepth 20000 in
theorem gX4_cheapest_X4_at : GoodIn wsX4_cheapest (va_wsS RX4 130 yX4_at wsX4_at) := goodIn_app (goodIn_of _ (by decide +kernel)) ggX4_cheapest_X4_at
set_option maxRecDepth 20000 in
theorem ggX4_cheapest_X0_isOpen : GoodIn wsX4_cheapest wsX0_isOpen := goodIn_r _ [15, 16, 8, 9, 10, 25, 26, 27, 28, 29, 30, 31, 32, 33, 34, 35, 36, 37] (by decide +kernel) (by decide +kernel)
set_option maxRecDepth 20000 in
theorem gX4_cheapest_X0_isOpen : GoodIn wsX4_cheapest (wsV RX4 157 RX0 yX0_isOpen wsX0_isOpen) := goodIn_app (goodIn_of _ (by decide +kernel)) ggX4_cheapest_X0_isOpen
set_option maxRecDepth 20000 in
theorem ggX4_cheapest_X0_shiftLoad : GoodIn wsX4_cheapest wsX0_shiftLoad := goodIn_r _ [20, 7, 8, 9, 10, 21, 22, 25, 26, 27, 28, 29, 30, 31, 32, 33, 34, 35, 36, 37] (by decide +kernel) (by decide +kernel)
set_option maxRecDepth 20000 in
theorem gX4_cheapest_X0_shiftLoad : GoodIn wsX4_cheapest (wsV RX4 240 RX0 yX0_shiftLoad wsX0_shiftLoad) := goodIn_app (goodIn_of _ (by decide +kernel)) ggX4_cheapest_X0_shiftLoad
set_option maxRecDepth 20000 in
theorem ggX4_cheapest_X4_cheapest : GoodIn wsX4_cheapest wsX4_cheapest := goodIn_r _ [0, 1, 2, 3, 4, 5, 6, 7, 8, 9, 10, 11, 12, 13, 14, 15, 16, 17, 18, 19, 20, 21, 22, 23, 24, 25, 26, 27, 28, 29, 30, 31, 32, 33, 34, 35, 36, 37] (by decide +kernel) (by decide +kernel)
set_option maxRecDepth 20000 in
theorem gX4_cheapest_X4_cheapest : GoodIn wsX4_cheapest (va_wsS RX4 202 yX4_cheapest wsX4_cheapest) := goodIn_app (goodIn_of _ (by decide +kernel)) ggX4_cheapest_X4_cheapest
theorem dX4_cheapest_0 : decode cX4_cheapest 0 = .ok (.aload_n 0, 1) := by decide +kernel
theorem dX4_cheapest_1 : decode cX4_cheapest 1 = .ok (.iload_n 1, 1) := by decide +kernel
theorem dX4_cheapest_2 : decode cX4_cheapest 2 = .ok (.invokevirtual 237, 3) := by decide +kernel
theorem dX4_cheapest_5 : decode cX4_cheapest 5 = .ok (.iload_n 2, 1) := by decide +kernel
theorem dX4_cheapest_6 : decode cX4_cheapest 6 = .ok (.if_icmp .le 6, 3) := by decide +kernel
theorem dX4_cheapest_9 : decode cX4_cheapest 9 = .ok (.bipush (-9), 2) := by decide +kernel
theorem dX4_cheapest_11 : decode cX4_cheapest 11 = .ok (.ireturn, 1) := by decide +kernel
theorem dX4_cheapest_12 : decode cX4_cheapest 12 = .ok (.iload_n 2, 1) := by decide +kernel
theorem dX4_cheapest_13 : decode cX4_cheapest 13 = .ok (.ifCond .gt 5, 3) := by decide +kernel
theorem dX4_cheapest_16 : decode cX4_cheapest 16 = .ok (.iconst 0, 1) := by decide +kernel
theorem dX4_cheapest_17 : decode cX4_cheapest 17 = .ok (.ireturn, 1) := by decide +kernel
theorem dX4_cheapest_18 : decode cX4_cheapest 18 = .ok (.bipush (-9), 2) := by decide +kernel
theorem dX4_cheapest_20 : decode cX4_cheapest 20 = .ok (.istore 4, 2) := by decide +kernel
theorem dX4_cheapest_22 : decode cX4_cheapest 22 = .ok (.iload_n 3, 1) := by decide +kernel
theorem dX4_cheapest_23 : decode cX4_cheapest 23 = .ok (.istore 5, 2) := by decide +kernel
theorem dX4_cheapest_25 : decode cX4_cheapest 25 = .ok (.iload 5, 2) := by decide +kernel
theorem dX4_cheapest_27 : decode cX4_cheapest 27 = .ok (.aload_n 0, 1) := by decide +kernel
theorem dX4_cheapest_28 : decode cX4_cheapest 28 = .ok (.getfield 111, 3) := by decide +kernel
theorem dX4_cheapest_31 : decode cX4_cheapest 31 = .ok (.if_icmp .ge 151, 3) := by decide +kernel
theorem dX4_cheapest_34 : decode cX4_cheapest 34 = .ok (.aload_n 0, 1) := by decide +kernel
theorem dX4_cheapest_35 : decode cX4_cheapest 35 = .ok (.getfield 171, 3) := by decide +kernel
theorem dX4_cheapest_38 : decode cX4_cheapest 38 = .ok (.iload 5, 2) := by decide +kernel
theorem dX4_cheapest_40 : decode cX4_cheapest 40 = .ok (.invokestatic 130, 3) := by decide +kernel
theorem dX4_cheapest_43 : decode cX4_cheapest 43 = .ok (.istore 6, 2) := by decide +kernel
theorem dX4_cheapest_45 : decode cX4_cheapest 45 = .ok (.aload_n 0, 1) := by decide +kernel
theorem dX4_cheapest_46 : decode cX4_cheapest 46 = .ok (.getfield 177, 3) := by decide +kernel
theorem dX4_cheapest_49 : decode cX4_cheapest 49 = .ok (.iload 5, 2) := by decide +kernel
theorem dX4_cheapest_51 : decode cX4_cheapest 51 = .ok (.invokestatic 130, 3) := by decide +kernel
theorem dX4_cheapest_54 : decode cX4_cheapest 54 = .ok (.istore 7, 2) := by decide +kernel
theorem dX4_cheapest_56 : decode cX4_cheapest 56 = .ok (.iload 7, 2) := by decide +kernel
theorem dX4_cheapest_58 : decode cX4_cheapest 58 = .ok (.bipush (-9), 2) := by decide +kernel
theorem dX4_cheapest_60 : decode cX4_cheapest 60 = .ok (.if_icmp .ne 6, 3) := by decide +kernel
theorem dX4_cheapest_63 : decode cX4_cheapest 63 = .ok (.goto 113, 3) := by decide +kernel
theorem dX4_cheapest_66 : decode cX4_cheapest 66 = .ok (.iconst 0, 1) := by decide +kernel
theorem dX4_cheapest_67 : decode cX4_cheapest 67 = .ok (.istore 8, 2) := by decide +kernel
theorem dX4_cheapest_69 : decode cX4_cheapest 69 = .ok (.iload 8, 2) := by decide +kernel
theorem dX4_cheapest_71 : decode cX4_cheapest 71 = .ok (.aload_n 0, 1) := by decide +kernel
theorem dX4_cheapest_72 : decode cX4_cheapest 72 = .ok (.getfield 105, 3) := by decide +kernel
theorem dX4_cheapest_75 : decode cX4_cheapest 75 = .ok (.if_icmp .ge 101, 3) := by decide +kernel
theorem dX4_cheapest_78 : decode cX4_cheapest 78 = .ok (.iload 8, 2) := by decide +kernel
theorem dX4_cheapest_80 : decode cX4_cheapest 80 = .ok (.iload 7, 2) := by decide +kernel
theorem dX4_cheapest_82 : decode cX4_cheapest 82 = .ok (.if_icmp .eq 88, 3) := by decide +kernel
theorem dX4_cheapest_85 : decode cX4_cheapest 85 = .ok (.aload_n 0, 1) := by decide +kernel
theorem dX4_cheapest_86 : decode cX4_cheapest 86 = .ok (.iload 8, 2) := by decide +kernel
theorem dX4_cheapest_88 : decode cX4_cheapest 88 = .ok (.invokevirtual 157, 3) := by decide +kernel
theorem dX4_cheapest_91 : decode cX4_cheapest 91 = .ok (.ifCond .ne 6, 3) := by decide +kernel
theorem dX4_cheapest_94 : decode cX4_cheapest 94 = .ok (.goto 76, 3) := by decide +kernel
theorem dX4_cheapest_97 : decode cX4_cheapest 97 = .ok (.aload_n 0, 1) := by decide +kernel
theorem dX4_cheapest_98 : decode cX4_cheapest 98 = .ok (.iload 6, 2) := by decide +kernel
theorem dX4_cheapest_100 : decode cX4_cheapest 100 = .ok (.iload 7, 2) := by decide +kernel
theorem dX4_cheapest_102 : decode cX4_cheapest 102 = .ok (.iload 8, 2) := by decide +kernel
theorem dX4_cheapest_104 : decode cX4_cheapest 104 = .ok (.invokevirtual 240, 3) := by decide +kernel
theorem dX4_cheapest_107 : decode cX4_cheapest 107 = .ok (.aload_n 0, 1) := by decide +kernel
theorem dX4_cheapest_108 : decode cX4_cheapest 108 = .ok (.iload_n 1, 1) := by decide +kernel
theorem dX4_cheapest_109 : decode cX4_cheapest 109 = .ok (.iload_n 2, 1) := by decide +kernel
theorem dX4_cheapest_110 : decode cX4_cheapest 110 = .ok (.iconst 1, 1) := by decide +kernel
theorem dX4_cheapest_111 : decode cX4_cheapest 111 = .ok (.isub, 1) := by decide +kernel
theorem dX4_cheapest_112 : decode cX4_cheapest 112 = .ok (.iload 5, 2) := by decide +kernel
theorem dX4_cheapest_114 : decode cX4_cheapest 114 = .ok (.iconst 1, 1) := by decide +kernel
theorem dX4_cheapest_115 : decode cX4_cheapest 115 = .ok (.iadd, 1) := by decide +kernel
theorem dX4_cheapest_116 : decode cX4_cheapest 116 = .ok (.invokestatic 202, 3) := by decide +kernel
theorem dX4_cheapest_119 : decode cX4_cheapest 119 = .ok (.istore 9, 2) := by decide +kernel
theorem dX4_cheapest_121 : decode cX4_cheapest 121 = .ok (.aload_n 0, 1) := by decide +kernel
theorem dX4_cheapest_122 : decode cX4_cheapest 122 = .ok (.iload 6, 2) := by decide +kernel
theorem dX4_cheapest_124 : decode cX4_cheapest 124 = .ok (.iload 8, 2) := by decide +kernel
theorem dX4_cheapest_126 : decode cX4_cheapest 126 = .ok (.iload 7, 2) := by decide +kernel
theorem dX4_cheapest_128 : decode cX4_cheapest 128 = .ok (.invokevirtual 240, 3) := by decide +kernel
theorem dX4_cheapest_131 : decode cX4_cheapest 131 = .ok (.iload 9, 2) := by decide +kernel
theorem dX4_cheapest_133 : decode cX4_cheapest 133 = .ok (.aload_n 0, 1) := by decide +kernel
theorem dX4_cheapest_134 : decode cX4_cheapest 134 = .ok (.getfield 174, 3) := by decide +kernel
theorem dX4_cheapest_137 : decode cX4_cheapest 137 = .ok (.iload 5, 2) := by decide +kernel
theorem dX4_cheapest_139 : decode cX4_cheapest 139 = .ok (.invokestatic 130, 3) := by decide +kernel
theorem dX4_cheapest_142 : decode cX4_cheapest 142 = .ok (.iadd, 1) := by decide +kernel
theorem dX4_cheapest_143 : decode cX4_cheapest 143 = .ok (.istore 10, 2) := by decide +kernel
theorem dX4_cheapest_145 : decode cX4_cheapest 145 = .ok (.iload 9, 2) := by decide +kernel
theorem dX4_cheapest_147 : decode cX4_cheapest 147 = .ok (.bipush (-9), 2) := by decide +kernel
theorem dX4_cheapest_149 : decode cX4_cheapest 149 = .ok (.if_icmp .eq 21, 3) := by decide +kernel
theorem dX4_cheapest_152 : decode cX4_cheapest 152 = .ok (.iload 4, 2) := by decide +kernel
theorem dX4_cheapest_154 : decode cX4_cheapest 154 = .ok (.bipush (-9), 2) := by decide +kernel
theorem dX4_cheapest_156 : decode cX4_cheapest 156 = .ok (.if_icmp .eq 10, 3) := by decide +kernel
theorem dX4_cheapest_159 : decode cX4_cheapest 159 = .ok (.iload 10, 2) := by decide +kernel
theorem dX4_cheapest_161 : decode cX4_cheapest 161 = .ok (.iload 4, 2) := by decide +kernel
theorem dX4_cheapest_163 : decode cX4_cheapest 163 = .ok (.if_icmp .ge 7, 3) := by decide +kernel
theorem dX4_cheapest_166 : decode cX4_cheapest 166 = .ok (.iload 10, 2) := by decide +kernel
theorem dX4_cheapest_168 : decode cX4_cheapest 168 = .ok (.istore 4, 2) := by decide +kernel
theorem dX4_cheapest_170 : decode cX4_cheapest 170 = .ok (.iinc 8 1, 3) := by decide +kernel
theorem dX4_cheapest_173 : decode cX4_cheapest 173 = .ok (.goto (-104), 3) := by decide +kernel
theorem dX4_cheapest_176 : decode cX4_cheapest 176 = .ok (.iinc 5 1, 3) := by decide +kernel
theorem dX4_cheapest_179 : decode cX4_cheapest 179 = .ok (.goto (-154), 3) := by decide +kernel
theorem dX4_cheapest_182 : decode cX4_cheapest 182 = .ok (.iload 4, 2) := by decide +kernel
theorem dX4_cheapest_184 : decode cX4_cheapest 184 = .ok (.ireturn, 1) := by decide +kernel
theorem dX4_at_0 : decode cX4_at 0 = .ok (.iload_n 1, 1) := by decide +kernel
theorem dX4_at_1 : decode cX4_at 1 = .ok (.ifCond .lt 15, 3) := by decide +kernel
theorem dX4_at_4 : decode cX4_at 4 = .ok (.iload_n 1, 1) := by decide +kernel
theorem dX4_at_5 : decode cX4_at 5 = .ok (.aload_n 0, 1) := by decide +kernel
theorem dX4_at_6 : decode cX4_at 6 = .ok (.arraylength, 1) := by decide +kernel
theorem dX4_at_7 : decode cX4_at 7 = .ok (.if_icmp .ge 9, 3) := by decide +kernel
theorem dX4_at_10 : decode cX4_at 10 = .ok (.aload_n 0, 1) := by decide +kernel
theorem dX4_at_11 : decode cX4_at 11 = .ok (.iload_n 1, 1) := by decide +kernel
theorem dX4_at_12 : decode cX4_at 12 = .ok (.iaload, 1) := by decide +kernel
theorem dX4_at_13 : decode cX4_at 13 = .ok (.goto 4, 3) := by decide +kernel
theorem dX4_at_16 : decode cX4_at 16 = .ok (.iconst 0, 1) := by decide +kernel
theorem dX4_at_17 : decode cX4_at 17 = .ok (.ireturn, 1) := by decide +kernel
theorem dX4_put_0 : decode cX4_put 0 = .ok (.iload_n 1, 1) := by decide +kernel
theorem dX4_put_1 : decode cX4_put 1 = .ok (.ifCond .lt 13, 3) := by decide +kernel
theorem dX4_put_4 : decode cX4_put 4 = .ok (.iload_n 1, 1) := by decide +kernel
theorem dX4_put_5 : decode cX4_put 5 = .ok (.aload_n 0, 1) := by decide +kernel
theorem dX4_put_6 : decode cX4_put 6 = .ok (.arraylength, 1) := by decide +kernel
theorem dX4_put_7 : decode cX4_put 7 = .ok (.if_icmp .ge 7, 3) := by decide +kernel
theorem dX4_put_10 : decode cX4_put 10 = .ok (.aload_n 0, 1) := by decide +kernel
theorem dX4_put_11 : decode cX4_put 11 = .ok (.iload_n 1, 1) := by decide +kernel
theorem dX4_put_12 : decode cX4_put 12 = .ok (.iload_n 2, 1) := by decide +kernel
theorem dX4_put_13 : decode cX4_put 13 = .ok (.iastore, 1) := by decide +kernel
theorem dX4_put_14 : decode cX4_put 14 = .ok (.return_, 1) := by decide +kernel
theorem dX4_copyRow_0 : decode cX4_copyRow 0 = .ok (.aload_n 0, 1) := by decide +kernel
theorem dX4_copyRow_1 : decode cX4_copyRow 1 = .ok (.iconst 0, 1) := by decide +kernel
theorem dX4_copyRow_2 : decode cX4_copyRow 2 = .ok (.aload_n 1, 1) := by decide +kernel
theorem dX4_copyRow_3 : decode cX4_copyRow 3 = .ok (.iconst 0, 1) := by decide +kernel
theorem dX4_copyRow_4 : decode cX4_copyRow 4 = .ok (.aload_n 0, 1) := by decide +kernel
theorem dX4_copyRow_5 : decode cX4_copyRow 5 = .ok (.arraylength, 1) := by decide +kernel
theorem dX4_copyRow_6 : decode cX4_copyRow 6 = .ok (.aload_n 1, 1) := by decide +kernel
theorem dX4_copyRow_7 : decode cX4_copyRow 7 = .ok (.arraylength, 1) := by decide +kernel
theorem dX4_copyRow_8 : decode cX4_copyRow 8 = .ok (.invokestatic 244, 3) := by decide +kernel
theorem dX4_copyRow_11 : decode cX4_copyRow 11 = .ok (.invokestatic 249, 3) := by decide +kernel
theorem dX4_copyRow_14 : decode cX4_copyRow 14 = .ok (.return_, 1) := by decide +kernel
theorem dJ6_bitCount_0f7a4_0 : decode cJ6_bitCount_0f7a4 0 = .ok (.iload_n 0, 1) := by decide +kernel
theorem dJ6_bitCount_0f7a4_1 : decode cJ6_bitCount_0f7a4 1 = .ok (.iload_n 0, 1) := by decide +kernel
theorem dJ6_bitCount_0f7a4_2 : decode cJ6_bitCount_0f7a4 2 = .ok (.iconst 1, 1) := by decide +kernel
theorem dJ6_bitCount_0f7a4_3 : decode cJ6_bitCount_0f7a4 3 = .ok (.iushr, 1) := by decide +kernel
theorem dJ6_bitCount_0f7a4_4 : decode cJ6_bitCount_0f7a4 4 = .ok (.ldc_w 265, 3) := by decide +kernel
theorem dJ6_bitCount_0f7a4_7 : decode cJ6_bitCount_0f7a4 7 = .ok (.iand, 1) := by decide +kernel
theorem dJ6_bitCount_0f7a4_8 : decode cJ6_bitCount_0f7a4 8 = .ok (.isub, 1) := by decide +kernel
theorem dJ6_bitCount_0f7a4_9 : decode cJ6_bitCount_0f7a4 9 = .ok (.istore_n 0, 1) := by decide +kernel
theorem dJ6_bitCount_0f7a4_10 : decode cJ6_bitCount_0f7a4 10 = .ok (.iload_n 0, 1) := by decide +kernel
theorem dJ6_bitCount_0f7a4_11 : decode cJ6_bitCount_0f7a4 11 = .ok (.ldc_w 266, 3) := by decide +kernel
theorem dJ6_bitCount_0f7a4_14 : decode cJ6_bitCount_0f7a4 14 = .ok (.iand, 1) := by decide +kernel
theorem dJ6_bitCount_0f7a4_15 : decode cJ6_bitCount_0f7a4 15 = .ok (.iload_n 0, 1) := by decide +kernel
theorem dJ6_bitCount_0f7a4_16 : decode cJ6_bitCount_0f7a4 16 = .ok (.iconst 2, 1) := by decide +kernel
theorem dJ6_bitCount_0f7a4_17 : decode cJ6_bitCount_0f7a4 17 = .ok (.iushr, 1) := by decide +kernel
theorem dJ6_bitCount_0f7a4_18 : decode cJ6_bitCount_0f7a4 18 = .ok (.ldc_w 266, 3) := by decide +kernel
theorem dJ6_bitCount_0f7a4_21 : decode cJ6_bitCount_0f7a4 21 = .ok (.iand, 1) := by decide +kernel
theorem dJ6_bitCount_0f7a4_22 : decode cJ6_bitCount_0f7a4 22 = .ok (.iadd, 1) := by decide +kernel
theorem dJ6_bitCount_0f7a4_23 : decode cJ6_bitCount_0f7a4 23 = .ok (.istore_n 0, 1) := by decide +kernel
theorem dJ6_bitCount_0f7a4_24 : decode cJ6_bitCount_0f7a4 24 = .ok (.iload_n 0, 1) := by decide +kernel
theorem dJ6_bitCount_0f7a4_25 : decode cJ6_bitCount_0f7a4 25 = .ok (.iload_n 0, 1) := by decide +kernel
theorem dJ6_bitCount_0f7a4_26 : decode cJ6_bitCount_0f7a4 26 = .ok (.iconst 4, 1) := by decide +kernel
theorem dJ6_bitCount_0f7a4_27 : decode cJ6_bitCount_0f7a4 27 = .ok (.iushr, 1) := by decide +kernel
theorem dJ6_bitCount_0f7a4_28 : decode cJ6_bitCount_0f7a4 28 = .ok (.iadd, 1) := by decide +kernel
theorem dJ6_bitCount_0f7a4_29 : decode cJ6_bitCount_0f7a4 29 = .ok (.ldc_w 267, 3) := by decide +kernel
theorem dJ6_bitCount_0f7a4_32 : decode cJ6_bitCount_0f7a4 32 = .ok (.iand, 1) := by decide +kernel
theorem dJ6_bitCount_0f7a4_33 : decode cJ6_bitCount_0f7a4 33 = .ok (.istore_n 0, 1) := by decide +kernel
theorem dJ6_bitCount_0f7a4_34 : decode cJ6_bitCount_0f7a4 34 = .ok (.iload_n 0, 1) := by decide +kernel
theorem dJ6_bitCount_0f7a4_35 : decode cJ6_bitCount_0f7a4 35 = .ok (.iload_n 0, 1) := by decide +kernel
theorem dJ6_bitCount_0f7a4_36 : decode cJ6_bitCount_0f7a4 36 = .ok (.bipush 8, 2) := by decide +kernel
theorem dJ6_bitCount_0f7a4_38 : decode cJ6_bitCount_0f7a4 38 = .ok (.iushr, 1) := by decide +kernel
theorem dJ6_bitCount_0f7a4_39 : decode cJ6_bitCount_0f7a4 39 = .ok (.iadd, 1) := by decide +kernel
theorem dJ6_bitCount_0f7a4_40 : decode cJ6_bitCount_0f7a4 40 = .ok (.istore_n 0, 1) := by decide +kernel
theorem dJ6_bitCount_0f7a4_41 : decode cJ6_bitCount_0f7a4 41 = .ok (.iload_n 0, 1) := by decide +kernel
theorem dJ6_bitCount_0f7a4_42 : decode cJ6_bitCount_0f7a4 42 = .ok (.iload_n 0, 1) := by decide +kernel
theorem dJ6_bitCount_0f7a4_43 : decode cJ6_bitCount_0f7a4 43 = .ok (.bipush 16, 2) := by decide +kernel
theorem dJ6_bitCount_0f7a4_45 : decode cJ6_bitCount_0f7a4 45 = .ok (.iushr, 1) := by decide +kernel
theorem dJ6_bitCount_0f7a4_46 : decode cJ6_bitCount_0f7a4 46 = .ok (.iadd, 1) := by decide +kernel
theorem dJ6_bitCount_0f7a4_47 : decode cJ6_bitCount_0f7a4 47 = .ok (.istore_n 0, 1) := by decide +kernel
theorem dJ6_bitCount_0f7a4_48 : decode cJ6_bitCount_0f7a4 48 = .ok (.iload_n 0, 1) := by decide +kernel
theorem dJ6_bitCount_0f7a4_49 : decode cJ6_bitCount_0f7a4 49 = .ok (.bipush 63, 2) := by decide +kernel
theorem dJ6_bitCount_0f7a4_51 : decode cJ6_bitCount_0f7a4 51 = .ok (.iand, 1) := by decide +kernel
theorem dJ6_bitCount_0f7a4_52 : decode cJ6_bitCount_0f7a4 52 = .ok (.ireturn, 1) := by decide +kernel
theorem dJ9_max_7cf53_0 : decode cJ9_max_7cf53 0 = .ok (.iload_n 0, 1) := by decide +kernel
theorem dJ9_max_7cf53_1 : decode cJ9_max_7cf53 1 = .ok (.iload_n 1, 1) := by decide +kernel
theorem dJ9_max_7cf53_2 : decode cJ9_max_7cf53 2 = .ok (.if_icmp .lt 7, 3) := by decide +kernel
theorem dJ9_max_7cf53_5 : decode cJ9_max_7cf53 5 = .ok (.iload_n 0, 1) := by decide +kernel
theorem dJ9_max_7cf53_6 : decode cJ9_max_7cf53 6 = .ok (.goto 4, 3) := by decide +kernel
theorem dJ9_max_7cf53_9 : decode cJ9_max_7cf53 9 = .ok (.iload_n 1, 1) := by decide +kernel
theorem dJ9_max_7cf53_10 : decode cJ9_max_7cf53 10 = .ok (.ireturn, 1) := by decide +kernel
theorem dJ9_min_7cf53_0 : decode cJ9_min_7cf53 0 = .ok (.iload_n 0, 1) := by decide +kernel
theorem dJ9_min_7cf53_1 : decode cJ9_min_7cf53 1 = .ok (.iload_n 1, 1) := by decide +kernel
theorem dJ9_min_7cf53_2 : decode cJ9_min_7cf53 2 = .ok (.if_icmp .gt 7, 3) := by decide +kernel
theorem dJ9_min_7cf53_5 : decode cJ9_min_7cf53 5 = .ok (.iload_n 0, 1) := by decide +kernel
theorem dJ9_min_7cf53_6 : decode cJ9_min_7cf53 6 = .ok (.goto 4, 3) := by decide +kernel
theorem dJ9_min_7cf53_9 : decode cJ9_min_7cf53 9 = .ok (.iload_n 1, 1) := by decide +kernel
theorem dJ9_min_7cf53_10 : decode cJ9_min_7cf53 10 = .ok (.ireturn, 1) := by decide +kernel
