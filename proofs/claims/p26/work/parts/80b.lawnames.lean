set_option maxRecDepth 20000 in
theorem wsL_law_r9_in : GoodIn lw_tbl wsL_law_r9 := goodIn_r _ [395, 210, 211, 212, 214, 0, 215, 216, 217, 218, 219, 225, 396, 397, 398, 399, 400, 401, 402, 403, 404, 226, 227, 228] (by decide +kernel) (by decide +kernel)
set_option maxRecDepth 20000 in
theorem wsL_law_r10_in : GoodIn lw_tbl wsL_law_r10 := goodIn_r _ [229, 230, 231, 232, 233, 234, 235, 236, 237, 238, 239, 240, 241, 405, 406, 407, 408, 409, 410, 411, 412, 413, 296, 297] (by decide +kernel) (by decide +kernel)
set_option maxRecDepth 20000 in
theorem wsL_law_r11_in : GoodIn lw_tbl wsL_law_r11 := goodIn_r _ [298, 299, 300, 301, 302, 414, 415, 416, 417, 418, 419, 420, 421, 422, 423, 424, 425, 426, 427, 428, 429, 430, 431, 432] (by decide +kernel) (by decide +kernel)
set_option maxRecDepth 20000 in
theorem wsL_law_r12_in : GoodIn lw_tbl wsL_law_r12 := goodIn_r _ [433, 256, 257, 258, 259, 260, 261, 262, 263, 264, 265, 266, 267, 268, 269, 274, 276, 2, 277, 282, 278, 280, 3, 281] (by decide +kernel) (by decide +kernel)
set_option maxRecDepth 20000 in
theorem wsL_law_r13_in : GoodIn lw_tbl wsL_law_r13 := goodIn_r _ [283, 285, 4, 286, 287, 289, 5, 290, 291, 293, 6, 294, 295, 434, 435, 436, 437, 438, 439, 440, 441, 442, 443, 444] (by decide +kernel) (by decide +kernel)
set_option maxRecDepth 20000 in
theorem wsL_law_r14_in : GoodIn lw_tbl wsL_law_r14 := goodIn_r _ [445, 446, 447, 448, 449, 450, 451, 452, 453, 454, 455, 456, 457, 458, 459, 460, 461, 462, 463, 464, 465, 466, 467, 468] (by decide +kernel) (by decide +kernel)
set_option maxRecDepth 20000 in
theorem wsL_law_r15_in : GoodIn lw_tbl wsL_law_r15 := goodIn_r _ [469, 470, 471, 472, 473, 474, 475, 476, 477, 478, 479, 480, 481, 482, 483, 484, 485, 486, 487, 488, 489, 490, 491, 492] (by decide +kernel) (by decide +kernel)
set_option maxRecDepth 20000 in
theorem wsL_law_r16_in : GoodIn lw_tbl wsL_law_r16 := goodIn_r _ [493, 494, 495, 496, 497, 498, 499, 500, 501, 502, 503, 188, 189, 190, 191, 205, 206, 207, 208, 504, 505, 506, 507, 340] (by decide +kernel) (by decide +kernel)
set_option maxRecDepth 20000 in
theorem wsL_law_r17_in : GoodIn lw_tbl wsL_law_r17 := goodIn_r _ [341, 342, 343, 344, 345, 346, 347, 517, 518, 519, 508, 509, 510, 511, 512, 513, 514, 515, 516] (by decide +kernel) (by decide +kernel)
set_option maxRecDepth 20000 in
theorem tX4_in : ∀ w ∈ wsX40, w ∈ lw_tbl := by decide +kernel
set_option maxRecDepth 20000 in
theorem tX0_in : ∀ w ∈ wsX00, w ∈ lw_tbl := by decide +kernel
set_option maxRecDepth 20000 in
theorem tX1_in : ∀ w ∈ wsX10, w ∈ lw_tbl := by decide +kernel
set_option maxRecDepth 20000 in
theorem tX3_in : ∀ w ∈ wsX30, w ∈ lw_tbl := by decide +kernel
set_option maxRecDepth 20000 in
theorem tX2_in : ∀ w ∈ wsX20, w ∈ lw_tbl := by decide +kernel
theorem wsL_law_in : ∀ w ∈ wsL_law, w ∈ lw_tbl := (List.forall_mem_append.mpr ⟨(List.forall_mem_append.mpr ⟨(List.forall_mem_append.mpr ⟨(List.forall_mem_append.mpr ⟨(List.forall_mem_append.mpr ⟨(List.forall_mem_append.mpr ⟨(List.forall_mem_append.mpr ⟨fun w h => (wsL_law_r1_in w h).1, (List.forall_mem_append.mpr ⟨fun w h => (wsL_law_r2_in w h).1, (List.forall_mem_append.mpr ⟨fun w h => (wsL_law_r3_in w h).1, (List.forall_mem_append.mpr ⟨fun w h => (wsL_law_r4_in w h).1, (List.forall_mem_append.mpr ⟨fun w h => (wsL_law_r5_in w h).1, (List.forall_mem_append.mpr ⟨fun w h => (wsL_law_r6_in w h).1, (List.forall_mem_append.mpr ⟨fun w h => (wsL_law_r7_in w h).1, (List.forall_mem_append.mpr ⟨fun w h => (wsL_law_r8_in w h).1, (List.forall_mem_append.mpr ⟨fun w h => (wsL_law_r9_in w h).1, (List.forall_mem_append.mpr ⟨fun w h => (wsL_law_r10_in w h).1, (List.forall_mem_append.mpr ⟨fun w h => (wsL_law_r11_in w h).1, (List.forall_mem_append.mpr ⟨fun w h => (wsL_law_r12_in w h).1, (List.forall_mem_append.mpr ⟨fun w h => (wsL_law_r13_in w h).1, (List.forall_mem_append.mpr ⟨fun w h => (wsL_law_r14_in w h).1, (List.forall_mem_append.mpr ⟨fun w h => (wsL_law_r15_in w h).1, (List.forall_mem_append.mpr ⟨fun w h => (wsL_law_r16_in w h).1, (fun w h => (wsL_law_r17_in w h).1)⟩)⟩)⟩)⟩)⟩)⟩)⟩)⟩)⟩)⟩)⟩)⟩)⟩)⟩)⟩)⟩), tX4_in⟩), tX0_in⟩), tX1_in⟩), tX3_in⟩), tX2_in⟩), fun _ h => absurd h List.not_mem_nil⟩)
theorem inlX0 : ∀ w ∈ wsX00, w ∈ wsL_law := fun _ h => List.mem_append_left _ (List.mem_append_left _ (List.mem_append_left _ (List.mem_append_left _ (List.mem_append_right _ h))))
theorem inX0 : ∀ w ∈ wsX00, w ∈ lw_tbl := fun w h => wsL_law_in w (inlX0 w h)
theorem inlX1 : ∀ w ∈ wsX10, w ∈ wsL_law := fun _ h => List.mem_append_left _ (List.mem_append_left _ (List.mem_append_left _ (List.mem_append_right _ h)))
theorem inX1 : ∀ w ∈ wsX10, w ∈ lw_tbl := fun w h => wsL_law_in w (inlX1 w h)
theorem inlX2 : ∀ w ∈ wsX20, w ∈ wsL_law := fun _ h => List.mem_append_left _ (List.mem_append_right _ h)
theorem inX2 : ∀ w ∈ wsX20, w ∈ lw_tbl := fun w h => wsL_law_in w (inlX2 w h)
theorem inlX3 : ∀ w ∈ wsX30, w ∈ wsL_law := fun _ h => List.mem_append_left _ (List.mem_append_left _ (List.mem_append_right _ h))
theorem inX3 : ∀ w ∈ wsX30, w ∈ lw_tbl := fun w h => wsL_law_in w (inlX3 w h)
theorem inlX4 : ∀ w ∈ wsX40, w ∈ wsL_law := fun _ h => List.mem_append_left _ (List.mem_append_left _ (List.mem_append_left _ (List.mem_append_left _ (List.mem_append_left _ (List.mem_append_right _ h)))))
theorem inX4 : ∀ w ∈ wsX40, w ∈ lw_tbl := fun w h => wsL_law_in w (inlX4 w h)
