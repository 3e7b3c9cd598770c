set_option maxRecDepth 100000 in
set_option maxHeartbeats 40000000 in
theorem a_0 : x_ends (x_go 1 x_code0 x_lp xI 9000 12 0 (99999, 99999) (s_arm 0 0)) [] = true := by decide +kernel
set_option maxRecDepth 100000 in
set_option maxHeartbeats 40000000 in
theorem a_1 : x_ends (x_go 1 x_code0 x_lp xI 9000 12 0 (99999, 99999) (s_arm 1 1)) [] = true := by decide +kernel
set_option maxRecDepth 100000 in
set_option maxHeartbeats 40000000 in
theorem a_3 : x_ends (x_go 1 x_code0 x_lp xI 9000 12 0 (99999, 99999) (s_arm 3 3)) [] = true := by decide +kernel
set_option maxRecDepth 100000 in
set_option maxHeartbeats 40000000 in
theorem a_4 : x_ends (x_go 1 x_code0 x_lp xI 9000 12 0 (99999, 99999) (s_arm 4 4)) [] = true := by decide +kernel
set_option maxRecDepth 100000 in
set_option maxHeartbeats 40000000 in
theorem a_5 : x_ends (x_go 1 x_code0 x_lp xI 9000 12 0 (99999, 99999) (s_arm 5 5)) [] = true := by decide +kernel
set_option maxRecDepth 100000 in
set_option maxHeartbeats 40000000 in
theorem a_6 : x_ends (x_go 1 x_code0 x_lp xI 9000 12 0 (99999, 99999) (s_arm 6 6)) [] = true := by decide +kernel
set_option maxRecDepth 100000 in
set_option maxHeartbeats 40000000 in
theorem a_7 : x_ends (x_go 1 x_code0 x_lp xI 9000 12 0 (99999, 99999) (s_arm 7 7)) [] = true := by decide +kernel
set_option maxRecDepth 100000 in
set_option maxHeartbeats 40000000 in
theorem a_8 : x_ends (x_go 1 x_code0 x_lp xI 9000 12 0 (99999, 99999) (s_arm 8 8)) [] = true := by decide +kernel
set_option maxRecDepth 100000 in
set_option maxHeartbeats 40000000 in
theorem a_9 : x_ends (x_go 1 x_code0 x_lp xI 9000 12 0 (99999, 99999) (s_arm 9 9)) [] = true := by decide +kernel
set_option maxRecDepth 100000 in
set_option maxHeartbeats 40000000 in
theorem a_11 : x_ends (x_go 1 x_code0 x_lp xI 9000 12 0 (99999, 99999) (s_arm 11 11)) [] = true := by decide +kernel
set_option maxRecDepth 100000 in
set_option maxHeartbeats 40000000 in
theorem a_12 : x_ends (x_go 1 x_code0 x_lp xI 9000 12 0 (99999, 99999) (s_arm 12 12)) [] = true := by decide +kernel
set_option maxRecDepth 100000 in
set_option maxHeartbeats 40000000 in
theorem a_13 : x_ends (x_go 1 x_code0 x_lp xI 9000 12 0 (99999, 99999) (s_arm 13 13)) [] = true := by decide +kernel
set_option maxRecDepth 100000 in
set_option maxHeartbeats 40000000 in
theorem a_14 : x_ends (x_go 1 x_code0 x_lp xI 9000 12 0 (99999, 99999) (s_arm 14 14)) [] = true := by decide +kernel
set_option maxRecDepth 100000 in
set_option maxHeartbeats 40000000 in
theorem a_15 : x_ends (x_go 1 x_code0 x_lp xI 9000 12 0 (99999, 99999) (s_arm 15 15)) [] = true := by decide +kernel
set_option maxRecDepth 100000 in
set_option maxHeartbeats 40000000 in
theorem a_16 : x_ends (x_go 1 x_code0 x_lp xI 9000 12 0 (99999, 99999) (s_arm 16 16)) [] = true := by decide +kernel
set_option maxRecDepth 100000 in
set_option maxHeartbeats 40000000 in
theorem a_17 : x_ends (x_go 1 x_code0 x_lp xI 9000 12 0 (99999, 99999) (s_arm 17 17)) [] = true := by decide +kernel
set_option maxRecDepth 100000 in
set_option maxHeartbeats 40000000 in
theorem a_18 : x_ends (x_go 1 x_code0 x_lp xI 9000 12 0 (99999, 99999) (s_arm 18 18)) [] = true := by decide +kernel
set_option maxRecDepth 100000 in
set_option maxHeartbeats 40000000 in
theorem a_20 : x_ends (x_go 1 x_code0 x_lp xI 9000 12 0 (99999, 99999) (s_arm 20 20)) [] = true := by decide +kernel
set_option maxRecDepth 100000 in
set_option maxHeartbeats 40000000 in
theorem a_21 : x_ends (x_go 1 x_code0 x_lp xI 9000 12 0 (99999, 99999) (s_arm 21 21)) [] = true := by decide +kernel
set_option maxRecDepth 100000 in
set_option maxHeartbeats 40000000 in
theorem a_23 : x_ends (x_go 1 x_code0 x_lp xI 9000 12 0 (99999, 99999) (s_arm 23 23)) [] = true := by decide +kernel
set_option maxRecDepth 100000 in
set_option maxHeartbeats 40000000 in
theorem a_24 : x_ends (x_go 1 x_code0 x_lp xI 9000 12 0 (99999, 99999) (s_arm 24 24)) [] = true := by decide +kernel
set_option maxRecDepth 100000 in
set_option maxHeartbeats 40000000 in
theorem a_25 : x_ends (x_go 1 x_code0 x_lp xI 9000 12 0 (99999, 99999) (s_arm 25 25)) [] = true := by decide +kernel
set_option maxRecDepth 100000 in
set_option maxHeartbeats 40000000 in
theorem a_26 : x_ends (x_go 1 x_code0 x_lp xI 9000 12 0 (99999, 99999) (s_arm 26 26)) [] = true := by decide +kernel
set_option maxRecDepth 100000 in
set_option maxHeartbeats 40000000 in
theorem a_27 : x_ends (x_go 1 x_code0 x_lp xI 9000 12 0 (99999, 99999) (s_arm 27 27)) [] = true := by decide +kernel
