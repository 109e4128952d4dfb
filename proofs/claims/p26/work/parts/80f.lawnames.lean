set_option maxRecDepth 20000 in
theorem gq_comesSo_r1 : GoodIn wsL_law wsL_comesSo_r1 := goodIn_r _ [101, 102, 99, 103, 104, 105, 106, 107, 108, 2, 109, 12, 18, 26, 110, 111, 112, 11, 113, 39, 114, 115, 116, 117] (by decide +kernel) (by decide +kernel)
set_option maxRecDepth 20000 in
theorem gq_comesSo_r2 : GoodIn wsL_law wsL_comesSo_r2 := goodIn_r _ [33, 118, 119, 120, 121, 122, 123, 35, 124, 125, 126, 127, 37, 36, 128, 129, 130, 131, 132, 133, 134, 135, 136, 31] (by decide +kernel) (by decide +kernel)
set_option maxRecDepth 20000 in
theorem gq_comesSo_r3 : GoodIn wsL_law wsL_comesSo_r3 := goodIn_r _ [137, 138, 91, 139, 38, 40, 140, 141, 142, 143, 42, 144, 145, 146, 147, 148, 149, 150, 151, 152, 153, 154, 155, 156] (by decide +kernel) (by decide +kernel)
set_option maxRecDepth 20000 in
theorem gq_comesSo_r4 : GoodIn wsL_law wsL_comesSo_r4 := goodIn_r _ [157, 158, 159, 160, 161, 162, 163, 164, 165, 166, 167, 168, 169, 170, 171, 172, 173, 174, 175, 176, 177, 178, 179, 180] (by decide +kernel) (by decide +kernel)
set_option maxRecDepth 20000 in
theorem gq_comesSo_r5 : GoodIn wsL_law wsL_comesSo_r5 := goodIn_r _ [181, 350, 351, 352, 353, 14, 22, 186, 84, 85, 86, 32, 34, 41, 43, 87, 88, 89, 90, 92, 93, 94, 95, 96] (by decide +kernel) (by decide +kernel)
set_option maxRecDepth 20000 in
theorem gq_comesSo_r6 : GoodIn wsL_law wsL_comesSo_r6 := goodIn_r _ [269, 270, 271, 21, 272, 55, 56, 57, 273, 274, 275, 276, 277, 278, 279, 280, 281, 282, 283, 284, 285, 286, 287, 59] (by decide +kernel) (by decide +kernel)
set_option maxRecDepth 20000 in
theorem gq_comesSo_r7 : GoodIn wsL_law wsL_comesSo_r7 := goodIn_r _ [288, 289, 290, 291, 58, 292, 293, 294, 295, 296, 297, 298, 299, 300, 238, 239, 240, 241, 242, 243, 244, 193, 194, 345] (by decide +kernel) (by decide +kernel)
set_option maxRecDepth 20000 in
theorem gq_comesSo_r8 : GoodIn wsL_law wsL_comesSo_r8 := goodIn_r _ [346, 347, 348, 349, 265, 266, 267, 268, 13, 195, 196, 197, 198, 199, 200, 201, 17, 202, 51, 50, 203, 79, 80, 81] (by decide +kernel) (by decide +kernel)
set_option maxRecDepth 20000 in
theorem gq_comesSo_r9 : GoodIn wsL_law wsL_comesSo_r9 := goodIn_r _ [82, 49, 83, 71, 72, 73, 74, 75, 76, 77, 78, 229, 230, 231, 232, 233, 234, 235, 236, 212, 191, 192, 237, 245] (by decide +kernel) (by decide +kernel)
set_option maxRecDepth 20000 in
theorem gq_comesSo_r10 : GoodIn wsL_law wsL_comesSo_r10 := goodIn_r _ [246, 247, 248, 249, 250, 251, 252, 253, 254, 255, 256] (by decide +kernel) (by decide +kernel)
set_option maxRecDepth 20000 in
theorem ggL_law_L_comesSo : GoodIn wsL_law wsL_comesSo := goodIn_c1 (List.mem_of_getElem? (i := 396) rfl) (by decide +kernel) (goodIn_app (goodIn_app (goodIn_app (goodIn_app (goodIn_app (goodIn_app (gq_comesSo_r1) (goodIn_app (gq_comesSo_r2) (goodIn_app (gq_comesSo_r3) (goodIn_app (gq_comesSo_r4) (goodIn_app (gq_comesSo_r5) (goodIn_app (gq_comesSo_r6) (goodIn_app (gq_comesSo_r7) (goodIn_app (gq_comesSo_r8) (goodIn_app (gq_comesSo_r9) (gq_comesSo_r10)))))))))) (goodIn_sub inlX4 (by decide +kernel))) (goodIn_sub inlX0 (by decide +kernel))) (goodIn_sub inlX1 (by decide +kernel))) (goodIn_sub inlX2 (by decide +kernel))) (goodIn_sub inlX3 (by decide +kernel)))
set_option maxRecDepth 20000 in
theorem gL_law_L_comesSo : GoodIn wsL_law (va_wsS RL 105 yL_comesSo wsL_comesSo) := goodIn_app (goodIn_of _ (by decide +kernel)) ggL_law_L_comesSo
