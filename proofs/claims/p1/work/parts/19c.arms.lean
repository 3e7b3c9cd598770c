set_option maxRecDepth 100000 in
set_option maxHeartbeats 40000000 in
theorem a_19a : x_ends (x_go 1 x_codea x_lp xI 9000 12 0 (99999, 99999) (s_arm 19 19)) [] = true := by decide +kernel
set_option maxRecDepth 100000 in
set_option maxHeartbeats 40000000 in
theorem a_19b : x_ends (x_go 1 x_codeb x_lp xI 9000 12 0 (99999, 99999) (s_arm 19 19)) [] = true := by decide +kernel
