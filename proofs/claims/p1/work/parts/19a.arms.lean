set_option maxRecDepth 100000 in
set_option maxHeartbeats 40000000 in
theorem a_2 : x_ends (x_go 1 x_code0 x_lp xI 9000 12 0 (99999, 99999) (s_arm 2 2)) [] = true := by decide +kernel
