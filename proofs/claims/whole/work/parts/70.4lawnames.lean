set_option maxRecDepth 20000 in
theorem lin_wsL_law_r24 : GoodIn lw_tbl wsL_law_r24 := goodIn_r _ [224, 475, 477, 230, 232, 476, 759, 760, 761, 762, 763, 764, 765, 767, 25, 768, 769, 478, 479, 480, 481, 482, 770, 771] (by decide +kernel) (by decide +kernel)
set_option maxRecDepth 20000 in
theorem lin_wsL_law_r25 : GoodIn lw_tbl wsL_law_r25 := goodIn_r _ [772, 773, 774, 776, 26, 777, 483, 484, 485, 486, 487, 488, 489, 490, 491, 492, 493, 494, 495, 496, 497, 498, 499, 778] (by decide +kernel) (by decide +kernel)
set_option maxRecDepth 20000 in
theorem lin_wsL_law_r26 : GoodIn lw_tbl wsL_law_r26 := goodIn_r _ [779, 780, 781, 500, 501, 502, 503, 504, 505, 506, 507, 508, 509, 510, 511, 782, 783, 784, 785, 786, 788, 27, 789, 512] (by decide +kernel) (by decide +kernel)
set_option maxRecDepth 20000 in
theorem lin_wsL_law_r27 : GoodIn lw_tbl wsL_law_r27 := goodIn_r _ [513, 514, 515, 135, 516, 517, 518, 519, 790, 791, 792, 793] (by decide +kernel) (by decide +kernel)
