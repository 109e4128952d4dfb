set_option maxRecDepth 20000 in
theorem ggL_law_X4_init : GoodIn wsL_law wsX4_init := goodIn_r _ [5, 6, 7, 8, 9, 10, 11, 12, 13, 14, 15, 16, 17, 18, 19, 20, 21, 22, 23, 24, 25, 26, 27, 28, 29, 30, 31, 32, 33, 34, 35, 36, 37, 38, 39, 40, 41, 42, 43, 44, 45, 46, 47, 48, 49, 50, 51, 52, 53, 54, 55, 56, 57, 58, 59, 60, 61, 62, 63, 64, 65, 66, 67, 68, 69, 70, 409, 410, 411, 412, 413, 414, 415, 416, 417, 418, 419, 420, 421, 403, 404, 405, 406, 407, 408, 422, 423, 424, 425, 426, 427, 428, 429, 430, 431, 432, 433, 434, 435, 436, 437] (by decide +kernel) (by decide +kernel)
set_option maxRecDepth 20000 in
theorem gL_law_X4_init : GoodIn wsL_law (wsX4_init) := ggL_law_X4_init
set_option maxRecDepth 20000 in
theorem ggL_law_X4_undo : GoodIn wsL_law wsX4_undo := goodIn_r _ [74, 18, 12, 75, 76, 77, 17, 78, 51, 50, 79, 80, 81, 82, 49, 83, 84, 85, 11, 86, 31, 32, 33, 34, 35, 36, 37, 38, 39, 40, 41, 42, 43, 87, 2, 88, 89, 90, 91, 92, 93, 94, 95, 96, 403, 404, 405, 406, 407, 408, 422, 423, 424, 409, 410, 411, 412, 413, 414, 415, 416, 417, 418, 419, 420, 421] (by decide +kernel) (by decide +kernel)
set_option maxRecDepth 20000 in
theorem gL_law_X4_undo : GoodIn wsL_law (wsV RL 83 RX4 yX4_undo wsX4_undo) := goodIn_app (goodIn_of _ (by decide +kernel)) ggL_law_X4_undo
set_option maxRecDepth 20000 in
theorem gq_refused_r1 : GoodIn wsL_law wsL_refused_r1 := goodIn_r _ [101, 102, 99, 103, 104, 105, 106, 107, 108, 2, 109, 12, 18, 26, 110, 111, 112, 11, 113, 39, 114, 115, 116, 117] (by decide +kernel) (by decide +kernel)
set_option maxRecDepth 20000 in
theorem gq_refused_r2 : GoodIn wsL_law wsL_refused_r2 := goodIn_r _ [33, 118, 119, 120, 121, 122, 123, 35, 124, 125, 126, 127, 37, 36, 128, 129, 130, 131, 132, 133, 134, 135, 136, 31] (by decide +kernel) (by decide +kernel)
set_option maxRecDepth 20000 in
theorem gq_refused_r3 : GoodIn wsL_law wsL_refused_r3 := goodIn_r _ [137, 138, 91, 139, 38, 40, 140, 141, 142, 143, 42, 144, 145, 146, 147, 148, 149, 150, 151, 152, 153, 154, 155, 156] (by decide +kernel) (by decide +kernel)
set_option maxRecDepth 20000 in
theorem gq_refused_r4 : GoodIn wsL_law wsL_refused_r4 := goodIn_r _ [157, 158, 159, 160, 161, 162, 163, 164, 165, 166, 167, 168, 169, 170, 171, 172, 173, 174, 175, 176, 177, 178, 179, 180] (by decide +kernel) (by decide +kernel)
set_option maxRecDepth 20000 in
theorem gq_refused_r5 : GoodIn wsL_law wsL_refused_r5 := goodIn_r _ [181, 182, 183, 184, 185, 13, 186, 84, 85, 86, 32, 34, 41, 43, 87, 88, 89, 90, 92, 93, 94, 95, 96, 187] (by decide +kernel) (by decide +kernel)
set_option maxRecDepth 20000 in
theorem gq_refused_r6 : GoodIn wsL_law wsL_refused_r6 := goodIn_r _ [188, 189, 190, 191, 192, 193, 194, 195, 196, 197, 198, 199, 200, 201, 17, 202, 51, 50, 203, 79, 80, 81, 82, 49] (by decide +kernel) (by decide +kernel)
set_option maxRecDepth 20000 in
theorem gq_refused_r7 : GoodIn wsL_law wsL_refused_r7 := goodIn_r _ [83, 204, 205, 206, 207, 208, 209, 210, 211, 212, 213, 214, 215, 216, 217, 218, 219, 220, 221, 222, 223, 224, 225, 226] (by decide +kernel) (by decide +kernel)
set_option maxRecDepth 20000 in
theorem gq_refused_r8 : GoodIn wsL_law wsL_refused_r8 := goodIn_r _ [227, 228, 229, 230, 231, 232, 233, 234, 235, 236, 237, 238, 239, 240, 241, 242, 243, 244, 245, 246, 247, 248, 249, 250] (by decide +kernel) (by decide +kernel)
set_option maxRecDepth 20000 in
theorem gq_refused_r9 : GoodIn wsL_law wsL_refused_r9 := goodIn_r _ [251, 252, 253, 254, 255, 256, 257, 258, 259, 260, 261, 262, 263, 264, 265, 266, 267, 268, 22, 269, 270, 271, 21, 272] (by decide +kernel) (by decide +kernel)
set_option maxRecDepth 20000 in
theorem gq_refused_r10 : GoodIn wsL_law wsL_refused_r10 := goodIn_r _ [55, 56, 57, 273, 274, 275, 276, 277, 278, 279, 280, 281, 282, 283, 284, 285, 286, 287, 59, 288, 289, 290, 291, 58] (by decide +kernel) (by decide +kernel)
set_option maxRecDepth 20000 in
theorem gq_refused_r11 : GoodIn wsL_law wsL_refused_r11 := goodIn_r _ [292, 293, 294, 295, 296, 297, 298, 299, 300, 301, 302, 303, 304, 305, 306, 307, 308, 309, 310, 311, 312, 313, 314, 315] (by decide +kernel) (by decide +kernel)
set_option maxRecDepth 20000 in
theorem gq_refused_r12 : GoodIn wsL_law wsL_refused_r12 := goodIn_r _ [316, 317, 318, 319, 320, 321, 322, 323, 324, 325, 326, 327, 328, 329, 330, 331, 332, 333, 334, 335, 336, 337, 338, 339] (by decide +kernel) (by decide +kernel)
set_option maxRecDepth 20000 in
theorem gq_refused_r13 : GoodIn wsL_law wsL_refused_r13 := goodIn_r _ [340, 341, 342, 343, 344, 345, 346, 347, 348, 349, 350, 351, 352, 353, 14, 354, 355, 356, 357, 358, 359, 360, 361, 362] (by decide +kernel) (by decide +kernel)
set_option maxRecDepth 20000 in
theorem gq_refused_r14 : GoodIn wsL_law wsL_refused_r14 := goodIn_r _ [363, 364, 365, 366, 367, 368, 369, 370, 371, 372, 373, 374, 375, 376, 377, 378] (by decide +kernel) (by decide +kernel)
set_option maxRecDepth 20000 in
theorem ggL_law_L_refused : GoodIn wsL_law wsL_refused := goodIn_c1 (List.mem_of_getElem? (i := 100) rfl) (by decide +kernel) (goodIn_app (goodIn_app (goodIn_app (goodIn_app (goodIn_app (goodIn_app (gq_refused_r1) (goodIn_app (gq_refused_r2) (goodIn_app (gq_refused_r3) (goodIn_app (gq_refused_r4) (goodIn_app (gq_refused_r5) (goodIn_app (gq_refused_r6) (goodIn_app (gq_refused_r7) (goodIn_app (gq_refused_r8) (goodIn_app (gq_refused_r9) (goodIn_app (gq_refused_r10) (goodIn_app (gq_refused_r11) (goodIn_app (gq_refused_r12) (goodIn_app (gq_refused_r13) (gq_refused_r14)))))))))))))) (goodIn_sub inlX4 (by decide +kernel))) (goodIn_sub inlX0 (by decide +kernel))) (goodIn_sub inlX1 (by decide +kernel))) (goodIn_sub inlX2 (by decide +kernel))) (goodIn_sub inlX3 (by decide +kernel)))
set_option maxRecDepth 20000 in
theorem gL_law_L_refused : GoodIn wsL_law (va_wsS RL 90 yL_refused wsL_refused) := goodIn_app (goodIn_of _ (by decide +kernel)) ggL_law_L_refused
