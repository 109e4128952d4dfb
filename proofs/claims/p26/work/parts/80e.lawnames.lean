set_option maxRecDepth 20000 in
theorem gq_acts_r1 : GoodIn wsL_law wsL_acts_r1 := goodIn_r _ [106, 107, 108, 2, 109, 12, 18, 26, 110, 111, 112, 11, 113, 39, 114, 115, 116, 117, 33, 118, 119, 120, 121, 122] (by decide +kernel) (by decide +kernel)
set_option maxRecDepth 20000 in
theorem gq_acts_r2 : GoodIn wsL_law wsL_acts_r2 := goodIn_r _ [123, 35, 124, 125, 126, 127, 37, 36, 128, 129, 130, 131, 132, 133, 134, 135, 136, 31, 137, 138, 91, 139, 38, 40] (by decide +kernel) (by decide +kernel)
set_option maxRecDepth 20000 in
theorem gq_acts_r3 : GoodIn wsL_law wsL_acts_r3 := goodIn_r _ [140, 141, 142, 143, 42, 144, 145, 146, 147, 148, 149, 150, 387, 388, 99, 389, 390, 151, 152, 153, 154, 155, 156, 157] (by decide +kernel) (by decide +kernel)
set_option maxRecDepth 20000 in
theorem gq_acts_r4 : GoodIn wsL_law wsL_acts_r4 := goodIn_r _ [158, 159, 160, 161, 162, 163, 164, 165, 166, 167, 168, 169, 170, 171, 172, 173, 182, 183, 184, 185, 13, 186, 84, 85] (by decide +kernel) (by decide +kernel)
set_option maxRecDepth 20000 in
theorem gq_acts_r5 : GoodIn wsL_law wsL_acts_r5 := goodIn_r _ [86, 32, 34, 41, 43, 87, 88, 89, 90, 92, 93, 94, 95, 96, 187, 188, 189, 190, 191, 192, 193, 194, 195, 196] (by decide +kernel) (by decide +kernel)
set_option maxRecDepth 20000 in
theorem gq_acts_r6 : GoodIn wsL_law wsL_acts_r6 := goodIn_r _ [197, 198, 199, 200, 201, 17, 202, 51, 50, 203, 79, 80, 81, 82, 49, 83, 174, 175, 176, 177, 178, 179, 180, 181] (by decide +kernel) (by decide +kernel)
set_option maxRecDepth 20000 in
theorem gq_acts_r7 : GoodIn wsL_law wsL_acts_r7 := goodIn_r _ [204, 205, 206, 207, 208, 209, 210, 211, 212, 229, 230, 231, 232, 233, 234, 235, 236, 237, 238, 239, 240, 241, 242, 243] (by decide +kernel) (by decide +kernel)
set_option maxRecDepth 20000 in
theorem gq_acts_r8 : GoodIn wsL_law wsL_acts_r8 := goodIn_r _ [244, 245, 246, 247, 248, 249, 250, 251, 252, 253, 254, 255, 256, 257, 258, 259, 260, 261, 262, 263, 264, 350, 351, 352] (by decide +kernel) (by decide +kernel)
set_option maxRecDepth 20000 in
theorem gq_acts_r9 : GoodIn wsL_law wsL_acts_r9 := goodIn_r _ [353, 14, 22, 269, 270, 271, 21, 272, 55, 56, 57, 273, 274, 275, 276, 277, 278, 279, 280, 281, 282, 283, 284, 285] (by decide +kernel) (by decide +kernel)
set_option maxRecDepth 20000 in
theorem gq_acts_r10 : GoodIn wsL_law wsL_acts_r10 := goodIn_r _ [286, 287, 59, 288, 289, 290, 291, 58, 292, 293, 294, 295, 296, 297, 298, 299, 300, 265, 266, 267, 268, 301, 302, 303] (by decide +kernel) (by decide +kernel)
set_option maxRecDepth 20000 in
theorem gq_acts_r11 : GoodIn wsL_law wsL_acts_r11 := goodIn_r _ [304, 305, 306, 307, 308, 309, 310, 311, 312, 313, 314, 315, 316, 317, 318, 319, 320, 321, 322, 323, 324, 325, 326, 327] (by decide +kernel) (by decide +kernel)
set_option maxRecDepth 20000 in
theorem gq_acts_r12 : GoodIn wsL_law wsL_acts_r12 := goodIn_r _ [328, 329, 330, 331, 332, 333, 334, 335, 336, 337, 338, 339, 371, 372, 373, 374, 375, 376, 377, 378, 213, 214, 215, 216] (by decide +kernel) (by decide +kernel)
set_option maxRecDepth 20000 in
theorem gq_acts_r13 : GoodIn wsL_law wsL_acts_r13 := goodIn_r _ [217, 218, 219, 220, 221, 222, 223, 224, 225, 226, 227, 228] (by decide +kernel) (by decide +kernel)
set_option maxRecDepth 20000 in
theorem ggL_law_L_acts : GoodIn wsL_law wsL_acts := goodIn_c1 (List.mem_of_getElem? (i := 393) rfl) (by decide +kernel) (goodIn_app (goodIn_app (goodIn_app (goodIn_app (goodIn_app (goodIn_app (gq_acts_r1) (goodIn_app (gq_acts_r2) (goodIn_app (gq_acts_r3) (goodIn_app (gq_acts_r4) (goodIn_app (gq_acts_r5) (goodIn_app (gq_acts_r6) (goodIn_app (gq_acts_r7) (goodIn_app (gq_acts_r8) (goodIn_app (gq_acts_r9) (goodIn_app (gq_acts_r10) (goodIn_app (gq_acts_r11) (goodIn_app (gq_acts_r12) (gq_acts_r13))))))))))))) (goodIn_sub inlX4 (by decide +kernel))) (goodIn_sub inlX0 (by decide +kernel))) (goodIn_sub inlX1 (by decide +kernel))) (goodIn_sub inlX2 (by decide +kernel))) (goodIn_sub inlX3 (by decide +kernel)))
set_option maxRecDepth 20000 in
theorem gL_law_L_acts : GoodIn wsL_law (va_wsS RL 101 yL_acts wsL_acts) := goodIn_app (goodIn_of _ (by decide +kernel)) ggL_law_L_acts
