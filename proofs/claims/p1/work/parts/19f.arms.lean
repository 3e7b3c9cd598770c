set_option maxRecDepth 100000 in
set_option maxHeartbeats 40000000 in
theorem a_28 : x_ends (x_go 1 x_code0 x_lp xI 9000 12 0 (99999, 99999) (s_arm 28 28)) [] = true := by decide +kernel
set_option maxRecDepth 100000 in
set_option maxHeartbeats 40000000 in
theorem a_29 : x_ends (x_go 1 x_code0 x_lp xI 9000 12 0 (99999, 99999) (s_arm 29 29)) [] = true := by decide +kernel
set_option maxRecDepth 100000 in
set_option maxHeartbeats 40000000 in
theorem a_30 : x_ends (x_go 1 x_code0 x_lp xI 9000 12 0 (99999, 99999) (s_arm 30 30)) [] = true := by decide +kernel
set_option maxRecDepth 100000 in
set_option maxHeartbeats 40000000 in
theorem a_31 : x_ends (x_go 1 x_code0 x_lp xI 9000 12 0 (99999, 99999) (s_arm 31 31)) [] = true := by decide +kernel
set_option maxRecDepth 100000 in
set_option maxHeartbeats 40000000 in
theorem a_32 : x_ends (x_go 1 x_code0 x_lp xI 9000 12 0 (99999, 99999) (s_arm 32 32)) [] = true := by decide +kernel
set_option maxRecDepth 100000 in
set_option maxHeartbeats 40000000 in
theorem a_33 : x_ends (x_go 1 x_code0 x_lp xI 9000 12 0 (99999, 99999) (s_arm 33 33)) [] = true := by decide +kernel
set_option maxRecDepth 100000 in
set_option maxHeartbeats 40000000 in
theorem a_34 : x_ends (x_go 1 x_code0 x_lp xI 9000 12 0 (99999, 99999) (s_arm 34 34)) [] = true := by decide +kernel
set_option maxRecDepth 100000 in
set_option maxHeartbeats 40000000 in
theorem a_35 : x_ends (x_go 1 x_code0 x_lp xI 9000 12 0 (99999, 99999) (s_arm 35 35)) [] = true := by decide +kernel
set_option maxRecDepth 100000 in
set_option maxHeartbeats 40000000 in
theorem a_36 : x_ends (x_go 1 x_code0 x_lp xI 9000 12 0 (99999, 99999) (s_arm 36 36)) [] = true := by decide +kernel
set_option maxRecDepth 100000 in
set_option maxHeartbeats 40000000 in
theorem a_37 : x_ends (x_go 1 x_code0 x_lp xI 9000 12 0 (99999, 99999) (s_arm 37 37)) [] = true := by decide +kernel
set_option maxRecDepth 100000 in
set_option maxHeartbeats 40000000 in
theorem a_38 : x_ends (x_go 1 x_code0 x_lp xI 9000 12 0 (99999, 99999) (s_arm 38 38)) [] = true := by decide +kernel
set_option maxRecDepth 100000 in
set_option maxHeartbeats 40000000 in
theorem a_39 : x_ends (x_go 1 x_code0 x_lp xI 9000 12 0 (99999, 99999) (s_arm 39 39)) [] = true := by decide +kernel
set_option maxRecDepth 100000 in
set_option maxHeartbeats 40000000 in
theorem a_40 : x_ends (x_go 1 x_code0 x_lp xI 9000 12 0 (99999, 99999) (s_arm 40 40)) [] = true := by decide +kernel
set_option maxRecDepth 100000 in
set_option maxHeartbeats 40000000 in
theorem a_42 : x_ends (x_go 1 x_code0 x_lp xI 9000 12 0 (99999, 99999) (s_arm 42 42)) [] = true := by decide +kernel
set_option maxRecDepth 100000 in
set_option maxHeartbeats 40000000 in
theorem a_43 : x_ends (x_go 1 x_code0 x_lp xI 9000 12 0 (99999, 99999) (s_arm 43 43)) [] = true := by decide +kernel
set_option maxRecDepth 100000 in
set_option maxHeartbeats 40000000 in
theorem a_44 : x_ends (x_go 1 x_code0 x_lp xI 9000 12 0 (99999, 99999) (s_arm 44 44)) [] = true := by decide +kernel
set_option maxRecDepth 100000 in
set_option maxHeartbeats 40000000 in
theorem a_45 : x_ends (x_go 1 x_code0 x_lp xI 9000 12 0 (99999, 99999) (s_arm 45 45)) [] = true := by decide +kernel
set_option maxRecDepth 100000 in
set_option maxHeartbeats 40000000 in
theorem a_46 : x_ends (x_go 1 x_code0 x_lp xI 9000 12 0 (99999, 99999) (s_arm 46 46)) [] = true := by decide +kernel
set_option maxRecDepth 100000 in
set_option maxHeartbeats 40000000 in
theorem a_47 : x_ends (x_go 1 x_code0 x_lp xI 9000 12 0 (99999, 99999) (s_arm 47 47)) [] = true := by decide +kernel
set_option maxRecDepth 100000 in
set_option maxHeartbeats 40000000 in
theorem a_48 : x_ends (x_go 1 x_code0 x_lp xI 9000 12 0 (99999, 99999) (s_arm 48 48)) [] = true := by decide +kernel
set_option maxRecDepth 100000 in
set_option maxHeartbeats 40000000 in
theorem a_49 : x_ends (x_go 1 x_code0 x_lp xI 9000 12 0 (99999, 99999) (s_arm 49 49)) [] = true := by decide +kernel
set_option maxRecDepth 100000 in
set_option maxHeartbeats 40000000 in
theorem a_50 : x_ends (x_go 1 x_code0 x_lp xI 9000 12 0 (99999, 99999) (s_arm 50 50)) [] = true := by decide +kernel
set_option maxRecDepth 100000 in
set_option maxHeartbeats 40000000 in
theorem a_51 : x_ends (x_go 1 x_code0 x_lp xI 9000 12 0 (99999, 99999) (s_arm 51 51)) [] = true := by decide +kernel
set_option maxRecDepth 100000 in
set_option maxHeartbeats 40000000 in
theorem a_52 : x_ends (x_go 1 x_code0 x_lp xI 9000 12 0 (99999, 99999) (s_arm 52 63)) [] = true := by decide +kernel
