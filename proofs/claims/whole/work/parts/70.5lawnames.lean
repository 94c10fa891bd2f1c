set_option maxRecDepth 20000 in
theorem lin_wsX60 : GoodIn lw_tbl wsX60 := goodIn_r _ [250, 252, 254] (by decide +kernel) (by decide +kernel)
set_option maxRecDepth 20000 in
theorem lin_wsX70 : GoodIn lw_tbl wsX70 := goodIn_r _ [560, 562, 564, 566, 568, 570, 572, 574, 576, 578, 580, 582, 584, 586, 588, 590, 592, 594, 596, 598, 600, 602, 604, 606, 608, 610] (by decide +kernel) (by decide +kernel)
set_option maxRecDepth 20000 in
theorem lin_wsX10 : GoodIn lw_tbl wsX10 := goodIn_r _ [154, 156, 158, 160, 162, 164, 166, 168, 170, 172, 174] (by decide +kernel) (by decide +kernel)
set_option maxRecDepth 20000 in
theorem lin_wsX30 : GoodIn lw_tbl wsX30 := goodIn_r _ [186, 188] (by decide +kernel) (by decide +kernel)
set_option maxRecDepth 20000 in
theorem lin_wsX40 : GoodIn lw_tbl wsX40 := goodIn_r _ [233, 235, 237, 239, 241, 243] (by decide +kernel) (by decide +kernel)
set_option maxRecDepth 20000 in
theorem lin_wsX20 : GoodIn lw_tbl wsX20 := goodIn_r _ [62, 64] (by decide +kernel) (by decide +kernel)
set_option maxRecDepth 20000 in
theorem lin_wsX50 : GoodIn lw_tbl wsX50 := goodIn_r _ [79, 81, 83, 85] (by decide +kernel) (by decide +kernel)
set_option maxRecDepth 20000 in
theorem lin_wsX00 : GoodIn lw_tbl wsX00 := goodIn_r _ [105, 107, 109, 111] (by decide +kernel) (by decide +kernel)
