set_option maxRecDepth 20000 in
theorem lin_wsL_law_r13 : GoodIn lw_tbl wsL_law_r13 := goodIn_r _ [329, 330, 331, 139, 141, 144, 146, 656, 657, 658, 659, 660, 662, 13, 663, 664, 666, 14, 667, 332, 333, 334, 335, 59] (by decide +kernel) (by decide +kernel)
set_option maxRecDepth 20000 in
theorem lin_wsL_law_r14 : GoodIn lw_tbl wsL_law_r14 := goodIn_r _ [668, 669, 670, 671, 336, 337, 338, 339, 153, 97, 100, 104, 340, 341, 342, 343, 344, 345, 346, 347, 348, 349, 350, 351] (by decide +kernel) (by decide +kernel)
set_option maxRecDepth 20000 in
theorem lin_wsL_law_r15 : GoodIn lw_tbl wsL_law_r15 := goodIn_r _ [352, 353, 354, 355, 356, 357, 358, 359, 360, 361, 362, 363, 364, 365, 366, 367, 368, 370, 4, 371, 372, 672, 673, 674] (by decide +kernel) (by decide +kernel)
set_option maxRecDepth 20000 in
theorem lin_wsL_law_r16 : GoodIn lw_tbl wsL_law_r16 := goodIn_r _ [675, 676, 678, 15, 679, 680, 682, 16, 683, 684, 686, 17, 687, 688, 690, 18, 691, 692, 694, 19, 695, 696, 698, 20] (by decide +kernel) (by decide +kernel)
set_option maxRecDepth 20000 in
theorem lin_wsL_law_r17 : GoodIn lw_tbl wsL_law_r17 := goodIn_r _ [699, 373, 374, 375, 376, 377, 378, 379, 380, 98, 101, 381, 382, 383, 700, 701, 702, 703, 704, 706, 21, 707, 384, 385] (by decide +kernel) (by decide +kernel)
set_option maxRecDepth 20000 in
theorem lin_wsL_law_r18 : GoodIn lw_tbl wsL_law_r18 := goodIn_r _ [386, 387, 185, 388, 389, 390, 391, 184, 708, 709, 710, 711, 546, 392, 393, 394, 395, 396, 397, 398, 399, 712, 713, 714] (by decide +kernel) (by decide +kernel)
