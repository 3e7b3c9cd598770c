set_option maxRecDepth 100000 in
set_option maxHeartbeats 40000000 in
theorem g_18 : x_ends (x_go 1 x_code0 x_lp xJ 9000 12 0 (18, 18) s_8p) [s_18] = true := by decide +kernel
