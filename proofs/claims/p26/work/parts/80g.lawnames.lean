set_option maxRecDepth 20000 in
theorem gq_areFewest_r1 : GoodIn wsL_law wsL_areFewest_r1 := goodIn_r _ [354, 355, 356, 2, 357, 14, 12, 186, 84, 85, 11, 86, 31, 32, 33, 34, 35, 36, 37, 38, 39, 40, 41, 42] (by decide +kernel) (by decide +kernel)
set_option maxRecDepth 20000 in
theorem gq_areFewest_r2 : GoodIn wsL_law wsL_areFewest_r2 := goodIn_r _ [43, 87, 88, 89, 90, 91, 92, 93, 94, 95, 96, 140, 141, 142, 143, 144, 134, 135, 136, 137, 138, 139, 118, 119] (by decide +kernel) (by decide +kernel)
set_option maxRecDepth 20000 in
theorem gq_areFewest_r3 : GoodIn wsL_law wsL_areFewest_r3 := goodIn_r _ [358, 359, 360, 361, 362, 363, 364, 132, 159, 160, 161, 162, 365, 242, 243, 244, 193, 194, 106, 107, 108, 109, 18, 26] (by decide +kernel) (by decide +kernel)
set_option maxRecDepth 20000 in
theorem gq_areFewest_r4 : GoodIn wsL_law wsL_areFewest_r4 := goodIn_r _ [110, 111, 112, 113, 114, 115, 116, 117, 120, 121, 122, 123, 124, 125, 126, 127, 128, 129, 130, 131, 133, 145, 146, 147] (by decide +kernel) (by decide +kernel)
set_option maxRecDepth 20000 in
theorem gq_areFewest_r5 : GoodIn wsL_law wsL_areFewest_r5 := goodIn_r _ [148, 149, 150, 101, 102, 99, 103, 104, 105, 151, 152, 153, 154, 155, 156, 157, 158, 163, 164, 165, 166, 167, 168, 169] (by decide +kernel) (by decide +kernel)
set_option maxRecDepth 20000 in
theorem gq_areFewest_r6 : GoodIn wsL_law wsL_areFewest_r6 := goodIn_r _ [170, 171, 172, 173, 174, 175, 176, 177, 178, 179, 180, 181, 229, 230, 231, 232, 13, 233, 234, 235, 236, 212, 191, 192] (by decide +kernel) (by decide +kernel)
set_option maxRecDepth 20000 in
theorem gq_areFewest_r7 : GoodIn wsL_law wsL_areFewest_r7 := goodIn_r _ [237, 238, 239, 240, 241, 195, 196, 197, 198, 199, 200, 201, 17, 202, 51, 50, 203, 79, 80, 81, 82, 49, 83, 71] (by decide +kernel) (by decide +kernel)
set_option maxRecDepth 20000 in
theorem gq_areFewest_r8 : GoodIn wsL_law wsL_areFewest_r8 := goodIn_r _ [72, 73, 74, 75, 76, 77, 78] (by decide +kernel) (by decide +kernel)
set_option maxRecDepth 20000 in
theorem ggL_law_L_areFewest : GoodIn wsL_law wsL_areFewest := goodIn_c1 (List.mem_of_getElem? (i := 399) rfl) (by decide +kernel) (goodIn_app (goodIn_app (goodIn_app (goodIn_app (goodIn_app (gq_areFewest_r1) (goodIn_app (gq_areFewest_r2) (goodIn_app (gq_areFewest_r3) (goodIn_app (gq_areFewest_r4) (goodIn_app (gq_areFewest_r5) (goodIn_app (gq_areFewest_r6) (goodIn_app (gq_areFewest_r7) (gq_areFewest_r8)))))))) (goodIn_sub inlX4 (by decide +kernel))) (goodIn_sub inlX0 (by decide +kernel))) (goodIn_sub inlX1 (by decide +kernel))) (goodIn_sub inlX2 (by decide +kernel)))
set_option maxRecDepth 20000 in
theorem gL_law_L_areFewest : GoodIn wsL_law (va_wsS RL 108 yL_areFewest wsL_areFewest) := goodIn_app (goodIn_of _ (by decide +kernel)) ggL_law_L_areFewest
set_option maxRecDepth 20000 in
theorem ggL_law_X4_count : GoodIn wsL_law wsX4_count := goodIn_r _ [109, 12, 18, 26, 110, 111, 112, 11, 113, 39, 114, 115, 116, 117, 33, 118, 2, 119, 120, 121, 122, 123, 35, 124, 125, 126, 127, 37, 36, 128, 129, 130, 131, 132, 133, 134, 135, 136, 31, 137, 138, 91, 139, 38, 40, 140, 141, 142, 143, 42, 144, 145, 146, 147, 148, 149, 150, 403, 404, 405, 406, 407, 408, 409, 410, 411, 412, 413, 414, 415, 416, 417, 418, 419, 420, 421, 422, 423, 424, 430, 431, 432, 433, 434, 435, 436, 437] (by decide +kernel) (by decide +kernel)
set_option maxRecDepth 20000 in
theorem gL_law_X4_count : GoodIn wsL_law (wsV RL 13 RX4 yX4_count wsX4_count) := goodIn_app (goodIn_of _ (by decide +kernel)) ggL_law_X4_count
