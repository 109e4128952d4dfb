set_option maxRecDepth 20000 in
theorem gq_fits_r1 : GoodIn wsL_law wsL_fits_r1 := goodIn_r _ [30, 382, 106, 107, 108, 2, 109, 12, 18, 26, 110, 111, 112, 11, 113, 39, 114, 115, 116, 117, 33, 118, 119, 120] (by decide +kernel) (by decide +kernel)
set_option maxRecDepth 20000 in
theorem gq_fits_r2 : GoodIn wsL_law wsL_fits_r2 := goodIn_r _ [121, 122, 123, 35, 124, 125, 126, 127, 37, 36, 128, 129, 130, 131, 132, 133, 134, 135, 136, 31, 137, 138, 91, 139] (by decide +kernel) (by decide +kernel)
set_option maxRecDepth 20000 in
theorem gq_fits_r3 : GoodIn wsL_law wsL_fits_r3 := goodIn_r _ [38, 40, 140, 141, 142, 143, 42, 144, 145, 146, 147, 148, 149, 150, 174, 175, 176, 177, 178, 179, 180, 181, 151, 152] (by decide +kernel) (by decide +kernel)
set_option maxRecDepth 20000 in
theorem gq_fits_r4 : GoodIn wsL_law wsL_fits_r4 := goodIn_r _ [153, 154, 155, 156, 157, 158, 159, 160, 161, 162, 163, 164, 165, 166, 167, 168, 169, 170, 171, 172, 173, 340, 341, 342] (by decide +kernel) (by decide +kernel)
set_option maxRecDepth 20000 in
theorem gq_fits_r5 : GoodIn wsL_law wsL_fits_r5 := goodIn_r _ [343, 344, 320, 321, 322, 323, 324, 325, 326, 327, 328, 329, 330, 32] (by decide +kernel) (by decide +kernel)
set_option maxRecDepth 20000 in
theorem ggL_law_L_fits : GoodIn wsL_law wsL_fits := goodIn_c1 (List.mem_of_getElem? (i := 381) rfl) (by decide +kernel) (goodIn_app (goodIn_app (goodIn_app (goodIn_app (goodIn_app (gq_fits_r1) (goodIn_app (gq_fits_r2) (goodIn_app (gq_fits_r3) (goodIn_app (gq_fits_r4) (gq_fits_r5))))) (goodIn_sub inlX4 (by decide +kernel))) (goodIn_sub inlX0 (by decide +kernel))) (goodIn_sub inlX1 (by decide +kernel))) (goodIn_sub inlX2 (by decide +kernel)))
set_option maxRecDepth 20000 in
theorem gL_law_L_fits : GoodIn wsL_law (va_wsS RL 94 yL_fits wsL_fits) := goodIn_app (goodIn_of _ (by decide +kernel)) ggL_law_L_fits
set_option maxRecDepth 20000 in
theorem ggL_law_L_cell : GoodIn wsL_law wsL_cell := goodIn_r _ [385, 386] (by decide +kernel) (by decide +kernel)
set_option maxRecDepth 20000 in
theorem gL_law_L_cell : GoodIn wsL_law (va_wsS RL 97 yL_cell wsL_cell) := goodIn_app (goodIn_of _ (by decide +kernel)) ggL_law_L_cell
set_option maxRecDepth 20000 in
theorem ggL_law_L_low : GoodIn wsL_law wsL_low := goodIn_r _ [389, 390] (by decide +kernel) (by decide +kernel)
set_option maxRecDepth 20000 in
theorem gL_law_L_low : GoodIn wsL_law (va_wsS RL 86 yL_low wsL_low) := goodIn_app (goodIn_of _ (by decide +kernel)) ggL_law_L_low
set_option maxRecDepth 20000 in
theorem ggL_law_X4_addServer : GoodIn wsL_law wsX4_addServer := goodIn_r _ [374, 13, 12, 186, 84, 85, 11, 86, 31, 32, 33, 34, 35, 36, 37, 38, 39, 40, 41, 42, 43, 87, 2, 88, 89, 90, 91, 92, 93, 94, 95, 96, 375, 376, 377, 378, 193, 194, 195, 196, 197, 198, 18, 199, 200, 201, 17, 202, 51, 50, 203, 79, 80, 81, 82, 49, 83, 403, 404, 405, 406, 407, 408, 409, 410, 411, 412, 413, 414, 415, 416, 417, 418, 419, 420, 421, 422, 423, 424] (by decide +kernel) (by decide +kernel)
set_option maxRecDepth 20000 in
theorem gL_law_X4_addServer : GoodIn wsL_law (wsV RL 78 RX4 yX4_addServer wsX4_addServer) := goodIn_app (goodIn_of _ (by decide +kernel)) ggL_law_X4_addServer
