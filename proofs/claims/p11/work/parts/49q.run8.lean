set_option maxRecDepth 100000 in
set_option maxHeartbeats 40000000 in
theorem g_8 : x_ends (x_go 1 x_code0 x_lp xJ 9000 12 0 (8, 8) s_0) [s_8p] = true := by decide +kernel
