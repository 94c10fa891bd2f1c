set_option maxRecDepth 20000 in
theorem lin_wsL_law_r19 : GoodIn lw_tbl wsL_law_r19 := goodIn_r _ [715, 400, 401, 402, 403, 716, 717, 718, 719, 404, 405, 406, 407, 408, 409, 410, 411, 412, 413, 414, 415, 416, 417, 418] (by decide +kernel) (by decide +kernel)
set_option maxRecDepth 20000 in
theorem lin_wsL_law_r20 : GoodIn lw_tbl wsL_law_r20 := goodIn_r _ [419, 420, 421, 720, 721, 722, 723, 724, 725, 726, 422, 423, 424, 425, 426, 427, 428, 429, 430, 727, 728, 729, 730, 731] (by decide +kernel) (by decide +kernel)
set_option maxRecDepth 20000 in
theorem lin_wsL_law_r21 : GoodIn lw_tbl wsL_law_r21 := goodIn_r _ [733, 22, 734, 735, 737, 23, 738, 431, 432, 433, 434, 435, 436, 437, 438, 439, 441, 5, 442, 739, 740, 741, 742, 443] (by decide +kernel) (by decide +kernel)
set_option maxRecDepth 20000 in
theorem lin_wsL_law_r22 : GoodIn lw_tbl wsL_law_r22 := goodIn_r _ [444, 445, 446, 447, 743, 744, 745, 746, 448, 449, 450, 451, 452, 453, 454, 455, 456, 457, 458, 459, 460, 461, 462, 747] (by decide +kernel) (by decide +kernel)
set_option maxRecDepth 20000 in
theorem lin_wsL_law_r23 : GoodIn lw_tbl wsL_law_r23 := goodIn_r _ [748, 749, 750, 751, 753, 24, 754, 463, 464, 465, 466, 228, 467, 468, 469, 470, 755, 756, 757, 758, 471, 472, 473, 474] (by decide +kernel) (by decide +kernel)
