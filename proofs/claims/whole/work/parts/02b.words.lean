set_option maxRecDepth 20000 in
theorem wsL_law0_r1_in : GoodIn lw_tbl wsL_law0_r1 := goodIn_r _ [48, 49, 39, 442, 443, 40, 645, 50, 51, 52, 53, 54, 55, 83, 58, 59, 56, 63, 64, 65, 444, 445, 446, 447] (by decide +kernel) (by decide +kernel)
set_option maxRecDepth 20000 in
theorem wsL_law0_r2_in : GoodIn lw_tbl wsL_law0_r2 := goodIn_r _ [448, 450, 479, 451, 454, 455, 456, 124, 125, 38, 126, 127, 128, 129, 130, 131, 132, 134, 4, 135, 136, 44, 61, 60] (by decide +kernel) (by decide +kernel)
set_option maxRecDepth 20000 in
theorem wsL_law0_r3_in : GoodIn lw_tbl wsL_law0_r3 := goodIn_r _ [204, 206, 6, 207, 208, 210, 7, 211, 62, 212, 214, 8, 215, 216, 218, 9, 219, 220, 222, 10, 223, 96, 98, 1] (by decide +kernel) (by decide +kernel)
set_option maxRecDepth 20000 in
theorem wsL_law0_r4_in : GoodIn lw_tbl wsL_law0_r4 := goodIn_r _ [99, 224, 226, 11, 227, 228, 230, 12, 231, 232, 233, 45, 234, 235, 237, 13, 238, 239, 241, 14, 242, 243, 244, 245] (by decide +kernel) (by decide +kernel)
set_option maxRecDepth 20000 in
theorem wsL_law0_r5_in : GoodIn lw_tbl wsL_law0_r5 := goodIn_r _ [112, 114, 3, 115, 246, 247, 248, 249, 250, 251, 252, 254, 15, 255, 92, 94, 0, 95, 256, 258, 16, 259, 260, 262] (by decide +kernel) (by decide +kernel)
set_option maxRecDepth 20000 in
theorem wsL_law0_r6_in : GoodIn lw_tbl wsL_law0_r6 := goodIn_r _ [17, 263, 264, 266, 18, 267, 484, 485, 486, 487, 457, 488, 490, 23, 491, 452, 449, 492, 494, 24, 495, 496, 498, 25] (by decide +kernel) (by decide +kernel)
set_option maxRecDepth 20000 in
theorem wsL_law0_r7_in : GoodIn lw_tbl wsL_law0_r7 := goodIn_r _ [499, 500, 502, 26, 503, 504, 506, 27, 507, 508, 510, 28, 511, 512, 514, 29, 515, 516, 517, 518, 519, 521, 30, 522] (by decide +kernel) (by decide +kernel)
set_option maxRecDepth 20000 in
theorem wsL_law0_r8_in : GoodIn lw_tbl wsL_law0_r8 := goodIn_r _ [453, 480, 481, 482, 483, 268, 269, 270, 271, 272, 273, 274, 275, 276, 278, 19, 279, 280, 46, 104, 106, 2, 107, 523] (by decide +kernel) (by decide +kernel)
set_option maxRecDepth 20000 in
theorem wsL_law0_r9_in : GoodIn lw_tbl wsL_law0_r9 := goodIn_r _ [524, 525, 526, 527, 529, 31, 530, 531, 533, 32, 534, 296, 297, 298, 299, 300, 301, 302, 303, 305, 20, 306, 307, 309] (by decide +kernel) (by decide +kernel)
set_option maxRecDepth 20000 in
theorem wsL_law0_r10_in : GoodIn lw_tbl wsL_law0_r10 := goodIn_r _ [21, 310, 535, 536, 537, 538, 539, 541, 33, 542, 543, 545, 34, 546, 311, 312, 313, 314, 315, 316, 317, 318, 319, 47] (by decide +kernel) (by decide +kernel)
set_option maxRecDepth 20000 in
theorem wsL_law0_r11_in : GoodIn lw_tbl wsL_law0_r11 := goodIn_r _ [547, 548, 549, 550, 84, 85, 86, 87, 551, 552, 553, 554, 88, 89, 90, 91, 555, 556, 557, 558, 335, 336, 337, 338] (by decide +kernel) (by decide +kernel)
set_option maxRecDepth 20000 in
theorem wsL_law0_r12_in : GoodIn lw_tbl wsL_law0_r12 := goodIn_r _ [339, 340, 341, 559, 560, 561, 562, 342, 343, 344, 345, 346, 347, 348, 563, 564, 565, 566, 100, 101, 102, 103, 567, 568] (by decide +kernel) (by decide +kernel)
set_option maxRecDepth 20000 in
theorem wsL_law0_r13_in : GoodIn lw_tbl wsL_law0_r13 := goodIn_r _ [569, 570, 349, 350, 351, 352, 353, 354, 355, 571, 572, 573, 574, 356, 357, 358, 359, 360, 361, 362, 575, 576, 577, 578] (by decide +kernel) (by decide +kernel)
set_option maxRecDepth 20000 in
theorem wsL_law0_r14_in : GoodIn lw_tbl wsL_law0_r14 := goodIn_r _ [579, 581, 35, 582, 108, 109, 110, 111, 583, 584, 585, 586, 363, 364, 365, 366, 367, 368, 369, 587, 588, 589, 590, 370] (by decide +kernel) (by decide +kernel)
set_option maxRecDepth 20000 in
theorem wsL_law0_r15_in : GoodIn lw_tbl wsL_law0_r15 := goodIn_r _ [371, 372, 373, 374, 375, 376, 377, 378, 379, 381, 382, 383, 591, 592, 593, 594, 595, 596, 597, 598, 600, 36, 601, 385] (by decide +kernel) (by decide +kernel)
set_option maxRecDepth 20000 in
theorem wsL_law0_r16_in : GoodIn lw_tbl wsL_law0_r16 := goodIn_r _ [386, 387, 388, 389, 390, 391, 602, 603, 604, 605, 392, 393, 394, 395, 396, 397, 398, 606, 607, 608, 609, 610, 612, 37] (by decide +kernel) (by decide +kernel)
set_option maxRecDepth 20000 in
theorem wsL_law0_r17_in : GoodIn lw_tbl wsL_law0_r17 := goodIn_r _ [613, 116, 117, 118, 119, 614, 615, 616, 617, 399, 400, 401, 402, 403, 404, 405, 618, 619, 620, 621, 406, 407, 408, 409] (by decide +kernel) (by decide +kernel)
set_option maxRecDepth 20000 in
theorem wsL_law0_r18_in : GoodIn lw_tbl wsL_law0_r18 := goodIn_r _ [410, 411, 412, 413, 414, 415, 417, 419, 22, 420, 622, 623, 624, 625, 626, 627, 628, 120, 121, 122, 123, 629, 630, 631] (by decide +kernel) (by decide +kernel)
set_option maxRecDepth 20000 in
theorem wsL_law0_r19_in : GoodIn lw_tbl wsL_law0_r19 := goodIn_r _ [632, 421, 422, 423, 424, 425, 426, 427, 633, 634, 635, 636, 428, 429, 430, 431, 432, 433, 434, 637, 638, 639, 640, 435] (by decide +kernel) (by decide +kernel)
set_option maxRecDepth 20000 in
theorem wsL_law0_r20_in : GoodIn lw_tbl wsL_law0_r20 := goodIn_r _ [436, 437, 438, 439, 440, 441, 641, 642, 643, 644] (by decide +kernel) (by decide +kernel)
set_option maxRecDepth 20000 in
theorem wsX00_in : GoodIn lw_tbl wsX00 := goodIn_r _ [66, 68, 70, 72, 74, 76, 78, 80] (by decide +kernel) (by decide +kernel)
set_option maxRecDepth 20000 in
theorem wsX10_in : GoodIn lw_tbl wsX10 := goodIn_r _ [458, 460, 462, 464, 466, 468, 470, 472, 474, 476] (by decide +kernel) (by decide +kernel)
set_option maxRecDepth 20000 in
theorem wsL_law0_t_in : GoodIn lw_tbl ([] : List Cond) := goodIn_r _ [] (by decide +kernel) (by decide +kernel)
set_option maxRecDepth 20000 in
theorem wsL_law_in0 : ∀ w ∈ wsL_law0, w ∈ lw_tbl := fun w h => ((goodIn_app (goodIn_app (goodIn_app (goodIn_app wsL_law0_r1_in (goodIn_app wsL_law0_r2_in (goodIn_app wsL_law0_r3_in (goodIn_app wsL_law0_r4_in (goodIn_app wsL_law0_r5_in (goodIn_app wsL_law0_r6_in (goodIn_app wsL_law0_r7_in (goodIn_app wsL_law0_r8_in (goodIn_app wsL_law0_r9_in (goodIn_app wsL_law0_r10_in (goodIn_app wsL_law0_r11_in (goodIn_app wsL_law0_r12_in (goodIn_app wsL_law0_r13_in (goodIn_app wsL_law0_r14_in (goodIn_app wsL_law0_r15_in (goodIn_app wsL_law0_r16_in (goodIn_app wsL_law0_r17_in (goodIn_app wsL_law0_r18_in (goodIn_app wsL_law0_r19_in (wsL_law0_r20_in)))))))))))))))))))) wsX00_in) wsX10_in) wsL_law0_t_in : GoodIn lw_tbl wsL_law0) w h).1
theorem wsL_law_x0 : ∀ w ∈ (vx_atS RX0 113 "java/lang/IllegalStateException" ["java/lang/RuntimeException", "java/lang/Exception"]).filter goodWord, w ∈ lw_tbl := by decide +kernel
theorem wsL_law_x1 : ∀ w ∈ (vx_atS RX0 83 "java/lang/IndexOutOfBoundsException" ["java/lang/RuntimeException", "java/lang/Exception"]).filter goodWord, w ∈ lw_tbl := by decide +kernel
theorem wsL_law_x2 : ∀ w ∈ (vx_atS RX0 61 "java/lang/IllegalArgumentException" ["java/lang/RuntimeException", "java/lang/Exception"]).filter goodWord, w ∈ lw_tbl := by decide +kernel
theorem wsL_law_in : ∀ w ∈ wsL_law, w ∈ lw_tbl := fun w h => (List.mem_append.mp h).elim (fun h => (List.mem_append.mp h).elim (fun h => (List.mem_append.mp h).elim (fun h => wsL_law_in0 w h) (fun h => wsL_law_x0 w h)) (fun h => wsL_law_x1 w h)) (fun h => wsL_law_x2 w h)
theorem inlX0 : ∀ w ∈ wsX00, w ∈ wsL_law := fun _ h => List.mem_append_left _ (List.mem_append_left _ (List.mem_append_left _ (List.mem_append_left _ (List.mem_append_left _ (List.mem_append_right _ h)))))
theorem inX0 : ∀ w ∈ wsX00, w ∈ lw_tbl := fun w h => wsL_law_in w (inlX0 w h)
theorem inlX1 : ∀ w ∈ wsX10, w ∈ wsL_law := fun _ h => List.mem_append_left _ (List.mem_append_left _ (List.mem_append_left _ (List.mem_append_left _ (List.mem_append_right _ h))))
theorem inX1 : ∀ w ∈ wsX10, w ∈ lw_tbl := fun w h => wsL_law_in w (inlX1 w h)
theorem inJ9 : ∀ w ∈ wsJ90, w ∈ lw_tbl := by decide +kernel
theorem inJ0 : ∀ w ∈ wsJ00, w ∈ lw_tbl := by decide +kernel
