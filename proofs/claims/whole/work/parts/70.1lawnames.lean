set_option maxRecDepth 20000 in
theorem lin_wsL_law_r7 : GoodIn lw_tbl wsL_law_r7 := goodIn_r _ [550, 551, 552, 553, 554, 555, 556, 557, 558, 559, 526, 528, 6, 529, 535, 542, 530, 532, 7, 533, 257, 258, 259, 260] (by decide +kernel) (by decide +kernel)
set_option maxRecDepth 20000 in
theorem lin_wsL_law_r8 : GoodIn lw_tbl wsL_law_r8 := goodIn_r _ [261, 613, 614, 615, 616, 617, 618, 619, 262, 263, 264, 265, 149, 137, 266, 267, 268, 269, 270, 271, 272, 273, 274, 275] (by decide +kernel) (by decide +kernel)
set_option maxRecDepth 20000 in
theorem lin_wsL_law_r9 : GoodIn lw_tbl wsL_law_r9 := goodIn_r _ [276, 277, 278, 279, 280, 281, 75, 103, 282, 284, 3, 285, 286, 287, 37, 288, 289, 290, 291, 292, 293, 294, 295, 296] (by decide +kernel) (by decide +kernel)
set_option maxRecDepth 20000 in
theorem lin_wsL_law_r10 : GoodIn lw_tbl wsL_law_r10 := goodIn_r _ [297, 298, 299, 300, 301, 302, 303, 304, 305, 620, 621, 622, 623, 624, 626, 8, 627, 628, 630, 9, 631, 632, 634, 10] (by decide +kernel) (by decide +kernel)
set_option maxRecDepth 20000 in
theorem lin_wsL_law_r11 : GoodIn lw_tbl wsL_law_r11 := goodIn_r _ [635, 543, 544, 636, 638, 11, 639, 306, 307, 308, 309, 61, 310, 640, 641, 642, 643, 311, 312, 313, 314, 151, 315, 644] (by decide +kernel) (by decide +kernel)
set_option maxRecDepth 20000 in
theorem lin_wsL_law_r12 : GoodIn lw_tbl wsL_law_r12 := goodIn_r _ [645, 646, 647, 316, 317, 318, 319, 320, 321, 322, 323, 324, 325, 326, 327, 648, 649, 650, 651, 652, 654, 12, 655, 328] (by decide +kernel) (by decide +kernel)
