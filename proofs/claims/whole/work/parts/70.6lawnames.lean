theorem lin_all : GoodIn lw_tbl wsL_law := goodIn_app (goodIn_app (goodIn_app (goodIn_app (goodIn_app (goodIn_app (goodIn_app (goodIn_app (goodIn_app (goodIn_app lin_wsL_law_r1 (goodIn_app lin_wsL_law_r2 (goodIn_app lin_wsL_law_r3 (goodIn_app lin_wsL_law_r4 (goodIn_app lin_wsL_law_r5 (goodIn_app lin_wsL_law_r6 (goodIn_app lin_wsL_law_r7 (goodIn_app lin_wsL_law_r8 (goodIn_app lin_wsL_law_r9 (goodIn_app lin_wsL_law_r10 (goodIn_app lin_wsL_law_r11 (goodIn_app lin_wsL_law_r12 (goodIn_app lin_wsL_law_r13 (goodIn_app lin_wsL_law_r14 (goodIn_app lin_wsL_law_r15 (goodIn_app lin_wsL_law_r16 (goodIn_app lin_wsL_law_r17 (goodIn_app lin_wsL_law_r18 (goodIn_app lin_wsL_law_r19 (goodIn_app lin_wsL_law_r20 (goodIn_app lin_wsL_law_r21 (goodIn_app lin_wsL_law_r22 (goodIn_app lin_wsL_law_r23 (goodIn_app lin_wsL_law_r24 (goodIn_app lin_wsL_law_r25 (goodIn_app lin_wsL_law_r26 (lin_wsL_law_r27))))))))))))))))))))))))))) lin_wsX60) lin_wsX70) lin_wsX10) lin_wsX30) lin_wsX40) lin_wsX20) lin_wsX50) lin_wsX00) (fun _ h => absurd h List.not_mem_nil)
theorem wsL_law_in : ∀ w ∈ wsL_law, w ∈ lw_tbl := fun w h => (lin_all w h).1
theorem inlX0 : ∀ w ∈ wsX00, w ∈ wsL_law := fun _ h => List.mem_append_left _ (List.mem_append_right _ h)
theorem inX0 : ∀ w ∈ wsX00, w ∈ lw_tbl := fun w h => wsL_law_in w (inlX0 w h)
theorem inlX1 : ∀ w ∈ wsX10, w ∈ wsL_law := fun _ h => List.mem_append_left _ (List.mem_append_left _ (List.mem_append_left _ (List.mem_append_left _ (List.mem_append_left _ (List.mem_append_left _ (List.mem_append_right _ h))))))
theorem inX1 : ∀ w ∈ wsX10, w ∈ lw_tbl := fun w h => wsL_law_in w (inlX1 w h)
theorem inlX2 : ∀ w ∈ wsX20, w ∈ wsL_law := fun _ h => List.mem_append_left _ (List.mem_append_left _ (List.mem_append_left _ (List.mem_append_right _ h)))
theorem inX2 : ∀ w ∈ wsX20, w ∈ lw_tbl := fun w h => wsL_law_in w (inlX2 w h)
theorem inlX3 : ∀ w ∈ wsX30, w ∈ wsL_law := fun _ h => List.mem_append_left _ (List.mem_append_left _ (List.mem_append_left _ (List.mem_append_left _ (List.mem_append_left _ (List.mem_append_right _ h)))))
theorem inX3 : ∀ w ∈ wsX30, w ∈ lw_tbl := fun w h => wsL_law_in w (inlX3 w h)
theorem inlX4 : ∀ w ∈ wsX40, w ∈ wsL_law := fun _ h => List.mem_append_left _ (List.mem_append_left _ (List.mem_append_left _ (List.mem_append_left _ (List.mem_append_right _ h))))
theorem inX4 : ∀ w ∈ wsX40, w ∈ lw_tbl := fun w h => wsL_law_in w (inlX4 w h)
theorem inlX5 : ∀ w ∈ wsX50, w ∈ wsL_law := fun _ h => List.mem_append_left _ (List.mem_append_left _ (List.mem_append_right _ h))
theorem inX5 : ∀ w ∈ wsX50, w ∈ lw_tbl := fun w h => wsL_law_in w (inlX5 w h)
theorem inlX6 : ∀ w ∈ wsX60, w ∈ wsL_law := fun _ h => List.mem_append_left _ (List.mem_append_left _ (List.mem_append_left _ (List.mem_append_left _ (List.mem_append_left _ (List.mem_append_left _ (List.mem_append_left _ (List.mem_append_left _ (List.mem_append_right _ h))))))))
theorem inX6 : ∀ w ∈ wsX60, w ∈ lw_tbl := fun w h => wsL_law_in w (inlX6 w h)
theorem inlX7 : ∀ w ∈ wsX70, w ∈ wsL_law := fun _ h => List.mem_append_left _ (List.mem_append_left _ (List.mem_append_left _ (List.mem_append_left _ (List.mem_append_left _ (List.mem_append_left _ (List.mem_append_left _ (List.mem_append_right _ h)))))))
theorem inX7 : ∀ w ∈ wsX70, w ∈ lw_tbl := fun w h => wsL_law_in w (inlX7 w h)
theorem inJ9 : ∀ w ∈ wsJ90, w ∈ lw_tbl := by decide +kernel
set_option maxRecDepth 20000 in
theorem ggL_law_X6_init : GoodIn wsL_law wsX6_init := goodIn_r _ [8, 9, 10, 11, 12, 13, 14, 15, 16, 17, 18, 19, 20, 21, 22, 23, 24, 25, 26, 27, 28, 29, 30, 31, 32, 33, 34, 35, 36, 37, 38, 39, 40, 41, 42, 43, 44, 45, 46, 47, 48, 49, 50, 51, 52, 53, 54, 55, 56, 57, 58, 59, 60, 61, 62, 63, 64, 65, 66, 67, 68, 69, 70, 71, 72, 73, 74, 75, 76, 77, 78, 79, 80, 81, 82, 83, 84, 85, 86, 87, 88, 89, 90, 91, 92, 93, 94, 95, 96, 97, 98, 99, 100, 101, 102, 103, 104, 105, 106, 107, 108, 109, 110, 111, 112, 113, 114, 115, 116, 117, 118, 119, 120, 121, 122, 123, 124, 125, 126, 127, 128, 665, 666, 667, 668, 669, 670, 671, 672, 673, 674, 675, 636, 637, 638, 676, 677, 678, 679, 680, 681, 682, 683, 684, 685, 686, 687, 688, 689, 690, 691, 692, 693] (by decide +kernel) (by decide +kernel)
set_option maxRecDepth 20000 in
theorem gL_law_X6_init : GoodIn wsL_law (wsX6_init) := ggL_law_X6_init
set_option maxRecDepth 20000 in
theorem ggL_law_X7_init : GoodIn wsL_law wsX7_init := goodIn_r _ [131, 132, 10, 11, 133, 28, 134, 135, 136, 137, 138, 139, 140, 141, 142, 143, 144, 145, 146, 147, 148, 149, 150, 151, 101, 152, 153, 154, 155, 156, 5, 157, 158, 159, 160, 161, 162, 163, 639, 640, 641, 642, 643, 644, 645, 646, 647, 648, 649, 650, 651, 652, 653, 654, 655, 656, 657, 658, 659, 660, 661, 662, 663, 664] (by decide +kernel) (by decide +kernel)
set_option maxRecDepth 20000 in
theorem gL_law_X7_init : GoodIn wsL_law (wsX7_init) := ggL_law_X7_init
set_option maxRecDepth 20000 in
theorem ggL_law_X6_heat : GoodIn wsL_law wsX6_heat := goodIn_r _ [167, 15, 168, 66, 67, 14, 68, 69, 70, 38, 42, 46, 71, 72, 73, 37, 74, 75, 76, 77, 78, 79, 50, 80, 81, 82, 41, 83, 54, 84, 85, 86, 45, 87, 88, 64, 636, 637, 638, 665, 666, 667, 668, 669, 670, 671, 672, 673, 674, 675, 684, 685, 686, 687, 688, 689, 690, 691, 692, 693] (by decide +kernel) (by decide +kernel)
set_option maxRecDepth 20000 in
theorem gL_law_X6_heat : GoodIn wsL_law (wsV RL 13 RX6 yX6_heat wsX6_heat) := goodIn_app (goodIn_of _ (by decide +kernel)) ggL_law_X6_heat
set_option maxRecDepth 20000 in
theorem ggL_law_X7_heat : GoodIn wsL_law wsX7_heat := goodIn_r _ [172, 173, 174, 5, 175, 154, 155, 156, 157, 133, 158, 137, 138, 139, 159, 639, 640, 641, 642, 643, 644, 645, 646, 647, 648, 649, 650, 651, 652, 653, 654, 655, 656, 657, 658, 659, 660, 661, 662, 663, 664] (by decide +kernel) (by decide +kernel)
set_option maxRecDepth 20000 in
theorem gL_law_X7_heat : GoodIn wsL_law (wsV RL 17 RX7 yX7_heat wsX7_heat) := goodIn_app (goodIn_of _ (by decide +kernel)) ggL_law_X7_heat
set_option maxRecDepth 20000 in
theorem ggL_law_X6_take : GoodIn wsL_law wsX6_take := goodIn_r _ [179, 15, 180, 181, 182, 183, 184, 14, 185, 69, 186, 187, 188, 37, 189, 75, 190, 191, 192, 193, 50, 194, 195, 196, 197, 70, 29, 30, 31, 42, 198, 38, 46, 199, 200, 201, 202, 203, 204, 205, 206, 207, 208, 209, 210, 32, 33, 211, 212, 213, 41, 214, 54, 55, 57, 58, 215, 216, 217, 218, 219, 220, 221, 222, 223, 224, 636, 637, 638, 665, 666, 667, 668, 669, 670, 671, 672, 673, 674, 675, 684, 685, 686, 687, 688, 689, 690, 691, 692, 693] (by decide +kernel) (by decide +kernel)
set_option maxRecDepth 20000 in
theorem gL_law_X6_take : GoodIn wsL_law (wsV RL 18 RX6 yX6_take wsX6_take) := goodIn_app (goodIn_of _ (by decide +kernel)) ggL_law_X6_take
set_option maxRecDepth 20000 in
theorem ggL_law_X7_take : GoodIn wsL_law wsX7_take := goodIn_r _ [228, 158, 159, 135, 137, 138, 134, 136, 229, 230, 231, 5, 232, 133, 173, 174, 175, 233, 234, 235, 236, 237, 238, 239, 240, 241, 242, 140, 243, 244, 245, 246, 139, 639, 640, 641, 642, 643, 644, 645, 646, 647, 648, 649, 650, 651, 652, 653, 654, 655, 656, 657, 658, 659, 660, 661, 662, 663, 664] (by decide +kernel) (by decide +kernel)
set_option maxRecDepth 20000 in
theorem gL_law_X7_take : GoodIn wsL_law (wsV RL 22 RX7 yX7_take wsX7_take) := goodIn_app (goodIn_of _ (by decide +kernel)) ggL_law_X7_take
set_option maxRecDepth 20000 in
theorem ggL_law_X6_back : GoodIn wsL_law wsX6_back := goodIn_r _ [250, 15, 180, 251, 182, 183, 184, 14, 185, 69, 186, 187, 188, 37, 189, 75, 190, 191, 192, 193, 50, 252, 77, 78, 79, 636, 637, 638, 665, 666, 667, 668, 669, 670, 671, 672, 673, 674, 675, 684, 685] (by decide +kernel) (by decide +kernel)
set_option maxRecDepth 20000 in
theorem gL_law_X6_back : GoodIn wsL_law (wsV RL 23 RX6 yX6_back wsX6_back) := goodIn_app (goodIn_of _ (by decide +kernel)) ggL_law_X6_back
set_option maxRecDepth 20000 in
theorem ggL_law_X7_back : GoodIn wsL_law wsX7_back := goodIn_r _ [256, 138, 137, 229, 230, 231, 5, 232, 133, 173, 174, 175, 233, 234, 235, 236, 639, 640, 641, 642, 643, 644, 645, 646, 647, 648, 649, 650, 651, 652, 653, 654, 655, 656, 657, 658, 659, 660, 661, 662, 663, 664] (by decide +kernel) (by decide +kernel)
set_option maxRecDepth 20000 in
theorem gL_law_X7_back : GoodIn wsL_law (wsV RL 26 RX7 yX7_back wsX7_back) := goodIn_app (goodIn_of _ (by decide +kernel)) ggL_law_X7_back
set_option maxRecDepth 20000 in
theorem ggL_law_X6_letGo : GoodIn wsL_law wsX6_letGo := goodIn_r _ [260, 15, 261, 262, 81, 82, 41, 83, 54, 636, 637, 638, 665, 666, 667, 668, 669, 670, 671, 672, 673, 674, 675, 686, 687, 688, 689] (by decide +kernel) (by decide +kernel)
set_option maxRecDepth 20000 in
theorem gL_law_X6_letGo : GoodIn wsL_law (wsV RL 27 RX6 yX6_letGo wsX6_letGo) := goodIn_app (goodIn_of _ (by decide +kernel)) ggL_law_X6_letGo
set_option maxRecDepth 20000 in
theorem ggL_law_X7_letGo : GoodIn wsL_law wsX7_letGo := goodIn_r _ [266, 159, 639, 640, 641, 642, 643, 644, 645, 646, 647, 648, 649, 650, 651, 652, 653, 654, 655, 656, 657, 658, 659, 660, 661, 662, 663, 664] (by decide +kernel) (by decide +kernel)
set_option maxRecDepth 20000 in
theorem gL_law_X7_letGo : GoodIn wsL_law (wsV RL 31 RX7 yX7_letGo wsX7_letGo) := goodIn_app (goodIn_of _ (by decide +kernel)) ggL_law_X7_letGo
set_option maxRecDepth 20000 in
theorem ggL_law_X6_mark : GoodIn wsL_law wsX6_mark := goodIn_r _ [270, 15, 271, 272, 273, 14, 274, 70, 275, 276, 277, 278, 31, 200, 201, 202, 203, 204, 205, 206, 207, 208, 209, 210, 32, 33, 636, 637, 638, 665, 666, 667, 668, 669, 670, 671, 672, 673, 674, 675] (by decide +kernel) (by decide +kernel)
set_option maxRecDepth 20000 in
theorem gL_law_X6_mark : GoodIn wsL_law (wsV RL 32 RX6 yX6_mark wsX6_mark) := goodIn_app (goodIn_of _ (by decide +kernel)) ggL_law_X6_mark
set_option maxRecDepth 20000 in
theorem ggL_law_X7_mark : GoodIn wsL_law wsX7_mark := goodIn_r _ [282, 136, 283, 284, 285, 5, 286, 158, 173, 174, 175, 639, 640, 641, 642, 643, 644, 645, 646, 647, 648, 649, 650, 651, 652, 653, 654, 655, 656, 657, 658, 659, 660, 661, 662, 663, 664] (by decide +kernel) (by decide +kernel)
set_option maxRecDepth 20000 in
theorem gL_law_X7_mark : GoodIn wsL_law (wsV RL 36 RX7 yX7_mark wsX7_mark) := goodIn_app (goodIn_of _ (by decide +kernel)) ggL_law_X7_mark
set_option maxRecDepth 20000 in
theorem ggL_law_X6_of : GoodIn wsL_law wsX6_of := goodIn_r _ [290, 15, 291, 292, 293, 294, 271, 272, 273, 14, 274, 70, 636, 637, 638, 665, 666, 667, 668, 669, 670, 671, 672, 673, 674, 675] (by decide +kernel) (by decide +kernel)
set_option maxRecDepth 20000 in
theorem gL_law_X6_of : GoodIn wsL_law (wsV RL 37 RX6 yX6_of wsX6_of) := goodIn_app (goodIn_of _ (by decide +kernel)) ggL_law_X6_of
set_option maxRecDepth 20000 in
theorem ggL_law_X7_of : GoodIn wsL_law wsX7_of := goodIn_r _ [298, 134, 135, 283, 284, 285, 5, 286, 158, 173, 174, 175, 299, 300, 301, 302, 136, 303, 304, 305, 306, 639, 640, 641, 642, 643, 644, 645, 646, 647, 648, 649, 650, 651, 652, 653, 654, 655, 656, 657, 658, 659, 660, 661, 662, 663, 664] (by decide +kernel) (by decide +kernel)
set_option maxRecDepth 20000 in
theorem gL_law_X7_of : GoodIn wsL_law (wsV RL 40 RX7 yX7_of wsX7_of) := goodIn_app (goodIn_of _ (by decide +kernel)) ggL_law_X7_of
set_option maxRecDepth 20000 in
theorem ggL_law_X6_line : GoodIn wsL_law wsX6_line := goodIn_r _ [310, 15, 180, 251, 311, 636, 637, 638, 665, 666, 667, 668, 669, 670, 671, 672, 673, 674, 675, 684, 685] (by decide +kernel) (by decide +kernel)
set_option maxRecDepth 20000 in
theorem gL_law_X6_line : GoodIn wsL_law (wsV RL 41 RX6 yX6_line wsX6_line) := goodIn_app (goodIn_of _ (by decide +kernel)) ggL_law_X6_line
set_option maxRecDepth 20000 in
theorem ggL_law_X7_line : GoodIn wsL_law wsX7_line := goodIn_r _ [315, 137, 138, 173, 174, 5, 175, 639, 640, 641, 642, 643, 644, 645, 646, 647, 648, 649, 650, 651, 652, 653, 654, 655, 656, 657, 658, 659, 660, 661, 662, 663, 664] (by decide +kernel) (by decide +kernel)
set_option maxRecDepth 20000 in
theorem gL_law_X7_line : GoodIn wsL_law (wsV RL 44 RX7 yX7_line wsX7_line) := goodIn_app (goodIn_of _ (by decide +kernel)) ggL_law_X7_line
set_option maxRecDepth 20000 in
theorem ggL_law_X6_told : GoodIn wsL_law wsX6_told := goodIn_r _ [319, 15, 320, 321, 322, 323, 182, 183, 184, 14, 185, 69, 324, 325, 326, 327, 46, 70, 29, 33, 328, 329, 330, 45, 331, 332, 333, 334, 335, 62, 63, 336, 337, 338, 339, 340, 341, 342, 343, 344, 345, 346, 347, 64, 348, 349, 350, 351, 88, 352, 353, 354, 355, 356, 636, 637, 638, 665, 666, 667, 668, 669, 670, 671, 672, 673, 674, 675, 690, 691, 692, 693] (by decide +kernel) (by decide +kernel)
set_option maxRecDepth 20000 in
theorem gL_law_X6_told : GoodIn wsL_law (wsV RL 45 RX6 yX6_told wsX6_told) := goodIn_app (goodIn_of _ (by decide +kernel)) ggL_law_X6_told
set_option maxRecDepth 20000 in
theorem ggL_law_X7_told : GoodIn wsL_law wsX7_told := goodIn_r _ [360, 146, 147, 139, 148, 229, 230, 231, 5, 232, 133, 173, 174, 175, 361, 362, 363, 364, 158, 134, 365, 366, 367, 368, 303, 304, 305, 306, 136, 369, 370, 371, 372, 373, 374, 375, 376, 377, 378, 379, 380, 381, 382, 383, 384, 639, 640, 641, 642, 643, 644, 645, 646, 647, 648, 649, 650, 651, 652, 653, 654, 655, 656, 657, 658, 659, 660, 661, 662, 663, 664] (by decide +kernel) (by decide +kernel)
set_option maxRecDepth 20000 in
theorem gL_law_X7_told : GoodIn wsL_law (wsV RL 48 RX7 yX7_told wsX7_told) := goodIn_app (goodIn_of _ (by decide +kernel)) ggL_law_X7_told
set_option maxRecDepth 20000 in
theorem ggL_law_X6_need : GoodIn wsL_law wsX6_need := goodIn_r _ [388, 15, 182, 183, 184, 14, 185, 69, 389, 390, 391, 392, 46, 393, 394, 395, 325, 326, 327, 70, 29, 33, 328, 329, 330, 45, 331, 332, 333, 334, 335, 62, 63, 336, 337, 338, 339, 396, 349, 350, 351, 88, 352, 353, 354, 355, 356, 345, 346, 347, 64, 397, 636, 637, 638, 665, 666, 667, 668, 669, 670, 671, 672, 673, 674, 675, 690, 691, 692, 693] (by decide +kernel) (by decide +kernel)
set_option maxRecDepth 20000 in
theorem gL_law_X6_need : GoodIn wsL_law (wsV RL 49 RX6 yX6_need wsX6_need) := goodIn_app (goodIn_of _ (by decide +kernel)) ggL_law_X6_need
set_option maxRecDepth 20000 in
theorem ggL_law_X7_need : GoodIn wsL_law wsX7_need := goodIn_r _ [401, 229, 230, 231, 5, 232, 133, 173, 174, 175, 402, 403, 404, 405, 361, 362, 363, 364, 158, 134, 365, 366, 367, 368, 146, 147, 303, 304, 305, 306, 136, 369, 370, 371, 372, 373, 374, 375, 376, 148, 139, 381, 382, 383, 384, 639, 640, 641, 642, 643, 644, 645, 646, 647, 648, 649, 650, 651, 652, 653, 654, 655, 656, 657, 658, 659, 660, 661, 662, 663, 664] (by decide +kernel) (by decide +kernel)
set_option maxRecDepth 20000 in
theorem gL_law_X7_need : GoodIn wsL_law (wsV RL 52 RX7 yX7_need wsX7_need) := goodIn_app (goodIn_of _ (by decide +kernel)) ggL_law_X7_need
set_option maxRecDepth 20000 in
theorem ggL_law_X6_past : GoodIn wsL_law wsX6_past := goodIn_r _ [409, 19, 410, 411, 412, 413, 18, 414, 415, 92, 636, 637, 638, 676, 677] (by decide +kernel) (by decide +kernel)
set_option maxRecDepth 20000 in
theorem gL_law_X6_past : GoodIn wsL_law (wsV RL 53 RX6 yX6_past wsX6_past) := goodIn_app (goodIn_of _ (by decide +kernel)) ggL_law_X6_past
set_option maxRecDepth 20000 in
theorem ggL_law_X7_past : GoodIn wsL_law wsX7_past := goodIn_r _ [419, 420, 141, 173, 174, 5, 175, 639, 640, 641, 642, 643, 644, 645, 646, 647, 648, 649, 650, 651, 652, 653, 654, 655, 656, 657, 658, 659, 660, 661, 662, 663, 664] (by decide +kernel) (by decide +kernel)
set_option maxRecDepth 20000 in
theorem gL_law_X7_past : GoodIn wsL_law (wsV RL 56 RX7 yX7_past wsX7_past) := goodIn_app (goodIn_of _ (by decide +kernel)) ggL_law_X7_past
set_option maxRecDepth 20000 in
theorem ggL_law_X6_keep : GoodIn wsL_law wsX6_keep := goodIn_r _ [424, 15, 19, 410, 181, 293, 294, 425, 426, 427, 14, 428, 70, 32, 411, 412, 413, 18, 414, 415, 92, 636, 637, 638, 676, 677, 665, 666, 667, 668, 669, 670, 671, 672, 673, 674, 675] (by decide +kernel) (by decide +kernel)
set_option maxRecDepth 20000 in
theorem gL_law_X6_keep : GoodIn wsL_law (wsV RL 57 RX6 yX6_keep wsX6_keep) := goodIn_app (goodIn_of _ (by decide +kernel)) ggL_law_X6_keep
set_option maxRecDepth 20000 in
theorem ggL_law_X7_keep : GoodIn wsL_law wsX7_keep := goodIn_r _ [432, 158, 420, 141, 299, 300, 301, 5, 302, 136, 303, 304, 305, 306, 639, 640, 641, 642, 643, 644, 645, 646, 647, 648, 649, 650, 651, 652, 653, 654, 655, 656, 657, 658, 659, 660, 661, 662, 663, 664] (by decide +kernel) (by decide +kernel)
set_option maxRecDepth 20000 in
theorem gL_law_X7_keep : GoodIn wsL_law (wsV RL 60 RX7 yX7_keep wsX7_keep) := goodIn_app (goodIn_of _ (by decide +kernel)) ggL_law_X7_keep
set_option maxRecDepth 20000 in
theorem ggL_law_X6_forget : GoodIn wsL_law wsX6_forget := goodIn_r _ [436, 19, 410, 636, 637, 638, 676, 677] (by decide +kernel) (by decide +kernel)
set_option maxRecDepth 20000 in
theorem gL_law_X6_forget : GoodIn wsL_law (wsV RL 61 RX6 yX6_forget wsX6_forget) := goodIn_app (goodIn_of _ (by decide +kernel)) ggL_law_X6_forget
set_option maxRecDepth 20000 in
theorem ggL_law_X7_forget : GoodIn wsL_law wsX7_forget := goodIn_r _ [440, 420, 639, 640, 641, 642, 643, 644, 645, 646, 647, 648, 649, 650, 651, 652, 653, 654, 655, 656, 657, 658, 659, 660, 661, 662, 663, 664] (by decide +kernel) (by decide +kernel)
set_option maxRecDepth 20000 in
theorem gL_law_X7_forget : GoodIn wsL_law (wsV RL 64 RX7 yX7_forget wsX7_forget) := goodIn_app (goodIn_of _ (by decide +kernel)) ggL_law_X7_forget
set_option maxRecDepth 20000 in
theorem ggL_law_X6_chance : GoodIn wsL_law wsX6_chance := goodIn_r _ [444, 19, 410, 445, 446, 2, 447, 448, 386, 387, 388, 15, 182, 183, 184, 14, 185, 69, 389, 390, 391, 392, 46, 393, 394, 395, 325, 326, 327, 70, 29, 33, 328, 329, 330, 45, 331, 332, 333, 334, 335, 62, 63, 336, 337, 338, 339, 396, 349, 350, 351, 88, 352, 353, 354, 355, 356, 345, 346, 347, 64, 397, 449, 450, 451, 18, 452, 415, 92, 453, 454, 455, 456, 457, 458, 636, 637, 638, 676, 677, 665, 666, 667, 668, 669, 670, 671, 672, 673, 674, 675, 690, 691, 692, 693] (by decide +kernel) (by decide +kernel)
set_option maxRecDepth 20000 in
theorem gL_law_X6_chance : GoodIn wsL_law (wsV RL 65 RX6 yX6_chance wsX6_chance) := goodIn_app (goodIn_of _ (by decide +kernel)) ggL_law_X6_chance
