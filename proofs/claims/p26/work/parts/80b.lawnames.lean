theorem goodIn_1 {big : List Cond} {w : Cond} (hm : w ∈ big) (h : goodWord w = true) : GoodIn big [w] := fun v hv => by
  rw [List.mem_singleton.mp hv]
  exact ⟨hm, good_of_word h⟩
theorem goodIn_c1 {big tl : List Cond} {w : Cond} (hm : w ∈ big) (h : goodWord w = true) (ht : GoodIn big tl) : GoodIn big (w :: tl) := fun v hv => by
  rcases List.mem_cons.mp hv with e | e
  · rw [e]
    exact ⟨hm, good_of_word h⟩
  · exact ht v e
set_option maxRecDepth 20000 in
theorem wsL_law_r9_in : GoodIn lw_tbl wsL_law_r9 := goodIn_r _ [395, 210, 211, 212, 214, 0, 215, 216, 217, 218, 219, 225, 396, 397, 398, 399, 400, 401, 402, 403, 404, 226, 227, 228] (by decide +kernel) (by decide +kernel)
set_option maxRecDepth 20000 in
theorem wsL_law_r10_in : GoodIn lw_tbl wsL_law_r10 := goodIn_r _ [229, 230, 231, 232, 233, 234, 235, 236, 237, 238, 239, 240, 241, 405, 406, 407, 408, 409, 410, 411, 412, 413, 296, 297] (by decide +kernel) (by decide +kernel)
set_option maxRecDepth 20000 in
theorem wsL_law_r11_in : GoodIn lw_tbl wsL_law_r11 := goodIn_r _ [298, 299, 300, 301, 302, 414, 415, 416, 417, 418, 419, 420, 421, 422, 423, 424, 425, 426, 427, 428, 429, 430, 431, 432] (by decide +kernel) (by decide +kernel)
set_option maxRecDepth 20000 in
theorem wsL_law_r12_in : GoodIn lw_tbl wsL_law_r12 := goodIn_r _ [433, 256, 257, 258, 259, 260, 261, 262, 263, 264, 265, 266, 267, 268, 269, 274, 276, 2, 277, 282, 278, 280, 3, 281] (by decide +kernel) (by decide +kernel)
set_option maxRecDepth 20000 in
theorem wsL_law_r13_in : GoodIn lw_tbl wsL_law_r13 := goodIn_r _ [283, 285, 4, 286, 287, 289, 5, 290, 291, 293, 6, 294, 295, 434, 435, 436, 437, 438, 439, 440, 441, 442, 443, 444] (by decide +kernel) (by decide +kernel)
set_option maxRecDepth 20000 in
theorem wsL_law_r14_in : GoodIn lw_tbl wsL_law_r14 := goodIn_r _ [445, 446, 447, 448, 449, 450, 451, 452, 453, 454, 455, 456, 457, 458, 459, 460, 461, 462, 463, 464, 465, 466, 467, 468] (by decide +kernel) (by decide +kernel)
set_option maxRecDepth 20000 in
theorem wsL_law_r15_in : GoodIn lw_tbl wsL_law_r15 := goodIn_r _ [469, 470, 471, 472, 473, 474, 475, 476, 477, 478, 479, 480, 481, 482, 483, 484, 485, 486, 487, 488, 489, 490, 491, 492] (by decide +kernel) (by decide +kernel)
def wr16_0 : List Cond := [Cond.code yX4_cheapest cX4_cheapest 11 (some .int), Cond.methodLink RX4 237 yX0_serversAbove, Cond.instanceMethod yX0_serversAbove, Cond.selects RX0 yX0_serversAbove yX0_serversAbove, Cond.code yX0_serversAbove cX0_serversAbove 4 (some .int), Cond.methodLink RX4 240 yX0_shiftLoad, Cond.methodLink RL 75 yX4_without, Cond.instanceMethod yX4_without, Cond.selects RX4 yX4_without yX4_without, Cond.code yX4_without cX4_without 2 (some .int), Cond.methodLink RX4 206 yX0_closeAndEmpty, Cond.methodLink RL 78 yX4_addServer, Cond.instanceMethod yX4_addServer, Cond.selects RX4 yX4_addServer yX4_addServer, Cond.code yX4_addServer cX4_addServer 1 (some .int), Cond.methodLink RX4 47 yX0_newServer, Cond.instanceMethod yX0_newServer, Cond.selects RX0 yX0_newServer yX0_newServer, Cond.code yX0_newServer cX0_newServer 1 (some .int), Cond.methodLink RL 94 yL_fits, Cond.static yL_fits]
set_option maxRecDepth 20000 in
theorem wr16_0_in : GoodIn lw_tbl wr16_0 := goodIn_r _ [493, 494, 495, 496, 497, 498, 499, 500, 501, 502, 503, 188, 189, 190, 191, 205, 206, 207, 208, 504, 505] (by decide +kernel) (by decide +kernel)
set_option maxRecDepth 20000 in
theorem wr16_1_in : GoodIn lw_tbl [Cond.code yL_fits cL_fits 17 (some .boolean)] := goodIn_1 (List.mem_of_getElem? (i := 506) rfl) (by decide +kernel)
def wr16_2 : List Cond := [Cond.constant RL 82 (99999), Cond.methodLink RL 97 yL_cell]
set_option maxRecDepth 20000 in
theorem wr16_2_in : GoodIn lw_tbl wr16_2 := goodIn_r _ [507, 340] (by decide +kernel) (by decide +kernel)
theorem wsL_law_r16_in : GoodIn lw_tbl wsL_law_r16 := goodIn_app wr16_0_in (goodIn_app wr16_1_in (wr16_2_in))
def wr17_0 : List Cond := [Cond.static yL_cell, Cond.code yL_cell cL_cell 3 (some .int), Cond.constant RL 7 (916318735), Cond.methodLink RL 86 yL_low, Cond.static yL_low, Cond.code yL_low cL_low 2 (some .int), Cond.constant RL 8 (2147483647), Cond.methodLink RL 101 yL_acts, Cond.static yL_acts]
set_option maxRecDepth 20000 in
theorem wr17_0_in : GoodIn lw_tbl wr17_0 := goodIn_r _ [341, 342, 343, 344, 345, 346, 347, 517, 518] (by decide +kernel) (by decide +kernel)
set_option maxRecDepth 20000 in
theorem wr17_1_in : GoodIn lw_tbl [Cond.code yL_acts cL_acts 16 (some .boolean)] := goodIn_1 (List.mem_of_getElem? (i := 519) rfl) (by decide +kernel)
def wr17_2 : List Cond := [Cond.methodLink RL 105 yL_comesSo, Cond.static yL_comesSo]
set_option maxRecDepth 20000 in
theorem wr17_2_in : GoodIn lw_tbl wr17_2 := goodIn_r _ [508, 509] (by decide +kernel) (by decide +kernel)
set_option maxRecDepth 20000 in
theorem wr17_3_in : GoodIn lw_tbl [Cond.code yL_comesSo cL_comesSo 17 (some .boolean)] := goodIn_1 (List.mem_of_getElem? (i := 510) rfl) (by decide +kernel)
def wr17_4 : List Cond := [Cond.methodLink RL 108 yL_areFewest, Cond.static yL_areFewest]
set_option maxRecDepth 20000 in
theorem wr17_4_in : GoodIn lw_tbl wr17_4 := goodIn_r _ [511, 512] (by decide +kernel) (by decide +kernel)
set_option maxRecDepth 20000 in
theorem wr17_5_in : GoodIn lw_tbl [Cond.code yL_areFewest cL_areFewest 9 (some .boolean)] := goodIn_1 (List.mem_of_getElem? (i := 513) rfl) (by decide +kernel)
def wr17_6 : List Cond := [Cond.methodLink RL 111 yL_isClosed, Cond.static yL_isClosed]
set_option maxRecDepth 20000 in
theorem wr17_6_in : GoodIn lw_tbl wr17_6 := goodIn_r _ [514, 515] (by decide +kernel) (by decide +kernel)
set_option maxRecDepth 20000 in
theorem wr17_7_in : GoodIn lw_tbl [Cond.code yL_isClosed cL_isClosed 9 (some .boolean)] := goodIn_1 (List.mem_of_getElem? (i := 516) rfl) (by decide +kernel)
theorem wsL_law_r17_in : GoodIn lw_tbl wsL_law_r17 := goodIn_app wr17_0_in (goodIn_app wr17_1_in (goodIn_app wr17_2_in (goodIn_app wr17_3_in (goodIn_app wr17_4_in (goodIn_app wr17_5_in (goodIn_app wr17_6_in (wr17_7_in)))))))
set_option maxRecDepth 20000 in
theorem tX4_in : ∀ w ∈ wsX40, w ∈ lw_tbl := by decide +kernel
set_option maxRecDepth 20000 in
theorem tX0_in : ∀ w ∈ wsX00, w ∈ lw_tbl := by decide +kernel
set_option maxRecDepth 20000 in
theorem tX1_in : ∀ w ∈ wsX10, w ∈ lw_tbl := by decide +kernel
set_option maxRecDepth 20000 in
theorem tX3_in : ∀ w ∈ wsX30, w ∈ lw_tbl := by decide +kernel
set_option maxRecDepth 20000 in
theorem tX2_in : ∀ w ∈ wsX20, w ∈ lw_tbl := by decide +kernel
theorem wsL_law_in : ∀ w ∈ wsL_law, w ∈ lw_tbl := (List.forall_mem_append.mpr ⟨(List.forall_mem_append.mpr ⟨(List.forall_mem_append.mpr ⟨(List.forall_mem_append.mpr ⟨(List.forall_mem_append.mpr ⟨(List.forall_mem_append.mpr ⟨(List.forall_mem_append.mpr ⟨fun w h => (wsL_law_r1_in w h).1, (List.forall_mem_append.mpr ⟨fun w h => (wsL_law_r2_in w h).1, (List.forall_mem_append.mpr ⟨fun w h => (wsL_law_r3_in w h).1, (List.forall_mem_append.mpr ⟨fun w h => (wsL_law_r4_in w h).1, (List.forall_mem_append.mpr ⟨fun w h => (wsL_law_r5_in w h).1, (List.forall_mem_append.mpr ⟨fun w h => (wsL_law_r6_in w h).1, (List.forall_mem_append.mpr ⟨fun w h => (wsL_law_r7_in w h).1, (List.forall_mem_append.mpr ⟨fun w h => (wsL_law_r8_in w h).1, (List.forall_mem_append.mpr ⟨fun w h => (wsL_law_r9_in w h).1, (List.forall_mem_append.mpr ⟨fun w h => (wsL_law_r10_in w h).1, (List.forall_mem_append.mpr ⟨fun w h => (wsL_law_r11_in w h).1, (List.forall_mem_append.mpr ⟨fun w h => (wsL_law_r12_in w h).1, (List.forall_mem_append.mpr ⟨fun w h => (wsL_law_r13_in w h).1, (List.forall_mem_append.mpr ⟨fun w h => (wsL_law_r14_in w h).1, (List.forall_mem_append.mpr ⟨fun w h => (wsL_law_r15_in w h).1, (List.forall_mem_append.mpr ⟨fun w h => (wsL_law_r16_in w h).1, (fun w h => (wsL_law_r17_in w h).1)⟩)⟩)⟩)⟩)⟩)⟩)⟩)⟩)⟩)⟩)⟩)⟩)⟩)⟩)⟩)⟩), tX4_in⟩), tX0_in⟩), tX1_in⟩), tX3_in⟩), tX2_in⟩), fun _ h => absurd h List.not_mem_nil⟩)
theorem inlX0 : ∀ w ∈ wsX00, w ∈ wsL_law := fun _ h => List.mem_append_left _ (List.mem_append_left _ (List.mem_append_left _ (List.mem_append_left _ (List.mem_append_right _ h))))
theorem inX0 : ∀ w ∈ wsX00, w ∈ lw_tbl := fun w h => wsL_law_in w (inlX0 w h)
theorem inlX1 : ∀ w ∈ wsX10, w ∈ wsL_law := fun _ h => List.mem_append_left _ (List.mem_append_left _ (List.mem_append_left _ (List.mem_append_right _ h)))
theorem inX1 : ∀ w ∈ wsX10, w ∈ lw_tbl := fun w h => wsL_law_in w (inlX1 w h)
theorem inlX2 : ∀ w ∈ wsX20, w ∈ wsL_law := fun _ h => List.mem_append_left _ (List.mem_append_right _ h)
theorem inX2 : ∀ w ∈ wsX20, w ∈ lw_tbl := fun w h => wsL_law_in w (inlX2 w h)
theorem inlX3 : ∀ w ∈ wsX30, w ∈ wsL_law := fun _ h => List.mem_append_left _ (List.mem_append_left _ (List.mem_append_right _ h))
theorem inX3 : ∀ w ∈ wsX30, w ∈ lw_tbl := fun w h => wsL_law_in w (inlX3 w h)
theorem inlX4 : ∀ w ∈ wsX40, w ∈ wsL_law := fun _ h => List.mem_append_left _ (List.mem_append_left _ (List.mem_append_left _ (List.mem_append_left _ (List.mem_append_left _ (List.mem_append_right _ h)))))
theorem inX4 : ∀ w ∈ wsX40, w ∈ lw_tbl := fun w h => wsL_law_in w (inlX4 w h)
