noncomputable section
/-! the law: its own table from its loop on -/
def te_0_0 (L : Nat) (xs : Nat → Int32) : Nat → eE := (e_T 33 (e_T 24 (e_T 20 (e_T 18 (e_L 18 (0, ei_load 3 0 19, 0, 0)) (e_T 19 (e_L 19 (0, ei_load 0 2 20, 0, 0)) (e_L 20 (0, e_S (g_scl L 21), 0, 0)))) (e_T 21 (e_L 21 (0, ei_push (0, 6) 23, 0, 0)) (e_T 23 (e_L 23 (0, ei_bin eF_sub 24, 0, 0)) (e_L 24 (0, ei_if2 4 2148 27, 0, 0))))) (e_T 29 (e_T 27 (e_L 27 (0, ei_load 0 2 28, 0, 0)) (e_T 28 (e_L 28 (0, ei_load 3 0 29, 0, 0)) (e_L 29 (0, e_S (g_scd L xs 30), 0, 0)))) (e_T 30 (e_L 30 (0, ei_push (0, 63) 32, 0, 0)) (e_T 32 (e_L 32 (0, ei_bin (eB (fun x y => x &&& y)) 33, 0, 0)) (e_L 33 (0, ei_sw [((-2147483648), (-1), 2142), (0, 0, 256), (1, 1, 319), (2, 2, 342), (3, 3, 355), (4, 4, 408), (5, 5, 471), (6, 6, 524), (7, 7, 567), (8, 8, 610), (9, 9, 663), (10, 10, 706), (11, 11, 769), (12, 12, 802), (13, 13, 855), (14, 14, 898), (15, 15, 941), (16, 16, 1004), (17, 17, 1037), (18, 18, 1060), (19, 19, 1109), (20, 20, 1168), (21, 21, 1191), (22, 22, 1214), (23, 23, 1227), (24, 24, 1260), (25, 25, 1283), (26, 26, 1316), (27, 27, 1375), (28, 28, 1450), (29, 29, 1473), (30, 30, 1496), (31, 31, 1519), (32, 32, 1562), (33, 33, 1595), (34, 34, 1638), (35, 35, 1661), (36, 36, 1684), (37, 37, 1697), (38, 38, 1730), (39, 39, 1763), (40, 40, 1806), (41, 41, 1839), (42, 42, 1872), (43, 43, 1905), (44, 44, 1938), (45, 45, 1961), (46, 46, 1994), (47, 47, 2017), (48, 48, 2030), (49, 49, 2063), (50, 50, 2096), (51, 51, 2119), (52, 2147483647, 2142)], 0, 0)))))) (e_T 261 (e_T 258 (e_T 256 (e_L 256 (0, ei_load 1 2 257, 0, 0)) (e_T 257 (e_L 257 (0, ei_load 0 2 258, 0, 0)) (e_L 258 (0, ei_load 3 0 259, 0, 0)))) (e_T 259 (e_L 259 (0, ei_push (0, 1) 260, 0, 0)) (e_T 260 (e_L 260 (0, ei_bin eF_add 261, 0, 0)) (e_L 261 (0, e_S (g_scd L xs 262), 0, 0))))) (e_T 264 (e_T 262 (e_L 262 (0, ei_load 0 2 263, 0, 0)) (e_T 263 (e_L 263 (0, ei_load 3 0 264, 0, 0)) (e_L 264 (0, ei_push (0, 2) 265, 0, 0)))) (e_T 265 (e_L 265 (0, ei_bin eF_add 266, 0, 0)) (e_T 266 (e_L 266 (0, e_S (g_scd L xs 267), 0, 0)) (e_L 267 (0, ei_load 0 2 268, 0, 0)))))))
set_option maxRecDepth 20000 in
set_option maxHeartbeats 4000000 in
theorem te_0_0_ok (L : Nat) (xs : Nat → Int32) : ∀ pc, e_EOl L xs pc (te_0_0 L xs pc) :=
  (e_TokL
  (e_TokL
  (e_TokL
  (e_TokL
  (e_LokL (e_stL (er_iload_n (i := 3) (x_dk dn_0_0_ok 0 rfl))))
  (e_TokL
  (e_LokL (e_stL (er_aload_n (i := 0) (x_dk dn_0_0_ok 1 rfl))))
  (e_LokL (Or.inr (Or.inl ⟨rfl, (x_dk dn_0_0_ok 2 rfl)⟩)))))
  (e_TokL
  (e_LokL (e_stL (er_bipush (n := 6) (z := 6) (v := 6) (x_dk dn_0_0_ok 3 rfl) (by decide) (by decide))))
  (e_TokL
  (e_LokL (e_stL (er_isub (x_dk dn_0_0_ok 4 rfl))))
  (e_LokL (e_stL (er_icmpgt (off := 2124) (tg := 2148) (x_dk dn_0_0_ok 5 rfl) (by decide)))))))
  (e_TokL
  (e_TokL
  (e_LokL (e_stL (er_aload_n (i := 0) (x_dk dn_0_0_ok 6 rfl))))
  (e_TokL
  (e_LokL (e_stL (er_iload_n (i := 3) (x_dk dn_0_0_ok 7 rfl))))
  (e_LokL (Or.inr (Or.inr ⟨rfl, (x_dk dn_0_0_ok 8 rfl)⟩)))))
  (e_TokL
  (e_LokL (e_stL (er_bipush (n := 63) (z := 63) (v := 63) (x_dk dn_0_0_ok 9 rfl) (by decide) (by decide))))
  (e_TokL
  (e_LokL (e_stL (er_iand (x_dk dn_0_0_ok 10 rfl))))
  (e_LokL (e_stL (er_tsw (dflt := 2109) (lo := 0) (hi := 51) (offs := #[223, 286, 309, 322, 375, 438, 491, 534, 577, 630, 673, 736, 769, 822, 865, 908, 971, 1004, 1027, 1076, 1135, 1158, 1181, 1194, 1227, 1250, 1283, 1342, 1417, 1440, 1463, 1486, 1529, 1562, 1605, 1628, 1651, 1664, 1697, 1730, 1773, 1806, 1839, 1872, 1905, 1928, 1961, 1984, 1997, 2030, 2063, 2086]) (len := 223) (n := 52) (x_dk dn_0_0_ok 11 rfl) (by decide) (by decide +kernel))))))))
  (e_TokL
  (e_TokL
  (e_TokL
  (e_LokL (e_stL (er_aload_n (i := 1) (x_dk dn_0_0_ok 12 rfl))))
  (e_TokL
  (e_LokL (e_stL (er_aload_n (i := 0) (x_dk dn_0_0_ok 13 rfl))))
  (e_LokL (e_stL (er_iload_n (i := 3) (x_dk dn_0_0_ok 14 rfl))))))
  (e_TokL
  (e_LokL (e_stL (er_iconst (n := 1) (z := 1) (v := 1) (x_dk dn_0_0_ok 15 rfl) (by decide) (by decide))))
  (e_TokL
  (e_LokL (e_stL (er_iadd (x_dk dn_0_0_ok 16 rfl))))
  (e_LokL (Or.inr (Or.inr ⟨rfl, (x_dk dn_0_0_ok 17 rfl)⟩))))))
  (e_TokL
  (e_TokL
  (e_LokL (e_stL (er_aload_n (i := 0) (x_dk dn_0_0_ok 18 rfl))))
  (e_TokL
  (e_LokL (e_stL (er_iload_n (i := 3) (x_dk dn_0_0_ok 19 rfl))))
  (e_LokL (e_stL (er_iconst (n := 2) (z := 2) (v := 2) (x_dk dn_0_0_ok 20 rfl) (by decide) (by decide))))))
  (e_TokL
  (e_LokL (e_stL (er_iadd (x_dk dn_0_0_ok 21 rfl))))
  (e_TokL
  (e_LokL (Or.inr (Or.inr ⟨rfl, (x_dk dn_0_0_ok 22 rfl)⟩)))
  (e_LokL (e_stL (er_aload_n (i := 0) (x_dk dn_0_0_ok 23 rfl)))))))))
def te_0_24 (L : Nat) (xs : Nat → Int32) : Nat → eE := (e_T 279 (e_T 273 (e_T 270 (e_T 268 (e_L 268 (0, ei_load 3 0 269, 0, 0)) (e_T 269 (e_L 269 (0, ei_push (0, 3) 270, 0, 0)) (e_L 270 (0, ei_bin eF_add 271, 0, 0)))) (e_T 271 (e_L 271 (0, e_S (g_scd L xs 272), 0, 0)) (e_T 272 (e_L 272 (0, ei_load 0 2 273, 0, 0)) (e_L 273 (0, ei_load 3 0 274, 0, 0))))) (e_T 276 (e_T 274 (e_L 274 (0, ei_push (0, 4) 275, 0, 0)) (e_T 275 (e_L 275 (0, ei_bin eF_add 276, 0, 0)) (e_L 276 (0, e_S (g_scd L xs 277), 0, 0)))) (e_T 277 (e_L 277 (0, ei_load 0 2 278, 0, 0)) (e_T 278 (e_L 278 (0, ei_load 3 0 279, 0, 0)) (e_L 279 (0, ei_push (0, 5) 280, 0, 0)))))) (e_T 287 (e_T 282 (e_T 280 (e_L 280 (0, ei_bin eF_add 281, 0, 0)) (e_T 281 (e_L 281 (0, e_S (g_scd L xs 282), 0, 0)) (e_L 282 (2, e_nof, 190, 6)))) (e_T 285 (e_L 285 (0, ei_stk ef_pop 286, 0, 0)) (e_T 286 (e_L 286 (0, ei_load 2 2 287, 0, 0)) (e_L 287 (0, ei_load 0 2 288, 0, 0))))) (e_T 290 (e_T 288 (e_L 288 (0, ei_load 3 0 289, 0, 0)) (e_T 289 (e_L 289 (0, ei_push (0, 1) 290, 0, 0)) (e_L 290 (0, ei_bin eF_add 291, 0, 0)))) (e_T 291 (e_L 291 (0, e_S (g_scd L xs 292), 0, 0)) (e_T 292 (e_L 292 (0, ei_load 0 2 293, 0, 0)) (e_L 293 (0, ei_load 3 0 294, 0, 0)))))))
set_option maxRecDepth 20000 in
set_option maxHeartbeats 4000000 in
theorem te_0_24_ok (L : Nat) (xs : Nat → Int32) : ∀ pc, e_EOl L xs pc (te_0_24 L xs pc) :=
  (e_TokL
  (e_TokL
  (e_TokL
  (e_TokL
  (e_LokL (e_stL (er_iload_n (i := 3) (x_dk dn_0_0_ok 24 rfl))))
  (e_TokL
  (e_LokL (e_stL (er_iconst (n := 3) (z := 3) (v := 3) (x_dk dn_0_0_ok 25 rfl) (by decide) (by decide))))
  (e_LokL (e_stL (er_iadd (x_dk dn_0_0_ok 26 rfl))))))
  (e_TokL
  (e_LokL (Or.inr (Or.inr ⟨rfl, (x_dk dn_0_0_ok 27 rfl)⟩)))
  (e_TokL
  (e_LokL (e_stL (er_aload_n (i := 0) (x_dk dn_0_0_ok 28 rfl))))
  (e_LokL (e_stL (er_iload_n (i := 3) (x_dk dn_0_0_ok 29 rfl)))))))
  (e_TokL
  (e_TokL
  (e_LokL (e_stL (er_iconst (n := 4) (z := 4) (v := 4) (x_dk dn_0_0_ok 30 rfl) (by decide) (by decide))))
  (e_TokL
  (e_LokL (e_stL (er_iadd (x_dk dn_0_0_ok 31 rfl))))
  (e_LokL (Or.inr (Or.inr ⟨rfl, (x_dk dn_0_0_ok 32 rfl)⟩)))))
  (e_TokL
  (e_LokL (e_stL (er_aload_n (i := 0) (x_dk dn_0_0_ok 33 rfl))))
  (e_TokL
  (e_LokL (e_stL (er_iload_n (i := 3) (x_dk dn_0_0_ok 34 rfl))))
  (e_LokL (e_stL (er_iconst (n := 5) (z := 5) (v := 5) (x_dk dn_0_0_ok 35 rfl) (by decide) (by decide))))))))
  (e_TokL
  (e_TokL
  (e_TokL
  (e_LokL (e_stL (er_iadd (x_dk dn_0_0_ok 36 rfl))))
  (e_TokL
  (e_LokL (Or.inr (Or.inr ⟨rfl, (x_dk dn_0_0_ok 37 rfl)⟩)))
  (e_LokL (e_caL (q' := n_190) rfl (xr_callV (q' := n_190) (ix := 13) (n := 5) (in_t4 (List.mem_of_getElem? (i := 157) rfl) rfl) good_w (in_t1 (List.mem_of_getElem? (i := 1) rfl) rfl) (in_t4 (List.mem_of_getElem? (i := 154) rfl) rfl) (in_t4 (List.mem_of_getElem? (i := 155) rfl) rfl) (in_t4 (List.mem_of_getElem? (i := 156) rfl) rfl) (by decide +kernel) (by decide +kernel) (by decide +kernel) (x_dk dn_0_0_ok 38 rfl))))))
  (e_TokL
  (e_LokL (e_stL (er_pop (x_dk dn_0_0_ok 39 rfl))))
  (e_TokL
  (e_LokL (e_stL (er_aload_n (i := 2) (x_dk dn_0_0_ok 40 rfl))))
  (e_LokL (e_stL (er_aload_n (i := 0) (x_dk dn_0_0_ok 41 rfl)))))))
  (e_TokL
  (e_TokL
  (e_LokL (e_stL (er_iload_n (i := 3) (x_dk dn_0_0_ok 42 rfl))))
  (e_TokL
  (e_LokL (e_stL (er_iconst (n := 1) (z := 1) (v := 1) (x_dk dn_0_0_ok 43 rfl) (by decide) (by decide))))
  (e_LokL (e_stL (er_iadd (x_dk dn_0_0_ok 44 rfl))))))
  (e_TokL
  (e_LokL (Or.inr (Or.inr ⟨rfl, (x_dk dn_0_0_ok 45 rfl)⟩)))
  (e_TokL
  (e_LokL (e_stL (er_aload_n (i := 0) (x_dk dn_0_0_ok 46 rfl))))
  (e_LokL (e_stL (er_iload_n (i := 3) (x_dk dn_0_0_ok 47 rfl)))))))))
def te_0_48 (L : Nat) (xs : Nat → Int32) : Nat → eE := (e_T 305 (e_T 299 (e_T 296 (e_T 294 (e_L 294 (0, ei_push (0, 2) 295, 0, 0)) (e_T 295 (e_L 295 (0, ei_bin eF_add 296, 0, 0)) (e_L 296 (0, e_S (g_scd L xs 297), 0, 0)))) (e_T 297 (e_L 297 (0, ei_load 0 2 298, 0, 0)) (e_T 298 (e_L 298 (0, ei_load 3 0 299, 0, 0)) (e_L 299 (0, ei_push (0, 3) 300, 0, 0))))) (e_T 302 (e_T 300 (e_L 300 (0, ei_bin eF_add 301, 0, 0)) (e_T 301 (e_L 301 (0, e_S (g_scd L xs 302), 0, 0)) (e_L 302 (0, ei_load 0 2 303, 0, 0)))) (e_T 303 (e_L 303 (0, ei_load 3 0 304, 0, 0)) (e_T 304 (e_L 304 (0, ei_push (0, 4) 305, 0, 0)) (e_L 305 (0, ei_bin eF_add 306, 0, 0)))))) (e_T 311 (e_T 308 (e_T 306 (e_L 306 (0, e_S (g_scd L xs 307), 0, 0)) (e_T 307 (e_L 307 (0, ei_load 0 2 308, 0, 0)) (e_L 308 (0, ei_load 3 0 309, 0, 0)))) (e_T 309 (e_L 309 (0, ei_push (0, 5) 310, 0, 0)) (e_T 310 (e_L 310 (0, ei_bin eF_add 311, 0, 0)) (e_L 311 (0, e_S (g_scd L xs 312), 0, 0))))) (e_T 316 (e_T 312 (e_L 312 (2, e_nof, 274, 6)) (e_T 315 (e_L 315 (0, ei_stk ef_pop 316, 0, 0)) (e_L 316 (0, ei_goto 2142, 0, 0)))) (e_T 319 (e_L 319 (0, ei_load 1 2 320, 0, 0)) (e_T 320 (e_L 320 (0, ei_load 0 2 321, 0, 0)) (e_L 321 (0, ei_load 3 0 322, 0, 0)))))))
set_option maxRecDepth 20000 in
set_option maxHeartbeats 4000000 in
theorem te_0_48_ok (L : Nat) (xs : Nat → Int32) : ∀ pc, e_EOl L xs pc (te_0_48 L xs pc) :=
  (e_TokL
  (e_TokL
  (e_TokL
  (e_TokL
  (e_LokL (e_stL (er_iconst (n := 2) (z := 2) (v := 2) (x_dk dn_0_0_ok 48 rfl) (by decide) (by decide))))
  (e_TokL
  (e_LokL (e_stL (er_iadd (x_dk dn_0_0_ok 49 rfl))))
  (e_LokL (Or.inr (Or.inr ⟨rfl, (x_dk dn_0_0_ok 50 rfl)⟩)))))
  (e_TokL
  (e_LokL (e_stL (er_aload_n (i := 0) (x_dk dn_0_0_ok 51 rfl))))
  (e_TokL
  (e_LokL (e_stL (er_iload_n (i := 3) (x_dk dn_0_0_ok 52 rfl))))
  (e_LokL (e_stL (er_iconst (n := 3) (z := 3) (v := 3) (x_dk dn_0_0_ok 53 rfl) (by decide) (by decide)))))))
  (e_TokL
  (e_TokL
  (e_LokL (e_stL (er_iadd (x_dk dn_0_0_ok 54 rfl))))
  (e_TokL
  (e_LokL (Or.inr (Or.inr ⟨rfl, (x_dk dn_0_0_ok 55 rfl)⟩)))
  (e_LokL (e_stL (er_aload_n (i := 0) (x_dk dn_0_0_ok 56 rfl))))))
  (e_TokL
  (e_LokL (e_stL (er_iload_n (i := 3) (x_dk dn_0_0_ok 57 rfl))))
  (e_TokL
  (e_LokL (e_stL (er_iconst (n := 4) (z := 4) (v := 4) (x_dk dn_0_0_ok 58 rfl) (by decide) (by decide))))
  (e_LokL (e_stL (er_iadd (x_dk dn_0_0_ok 59 rfl))))))))
  (e_TokL
  (e_TokL
  (e_TokL
  (e_LokL (Or.inr (Or.inr ⟨rfl, (x_dk dn_0_0_ok 60 rfl)⟩)))
  (e_TokL
  (e_LokL (e_stL (er_aload_n (i := 0) (x_dk dn_0_0_ok 61 rfl))))
  (e_LokL (e_stL (er_iload_n (i := 3) (x_dk dn_0_0_ok 62 rfl))))))
  (e_TokL
  (e_LokL (e_stL (er_iconst (n := 5) (z := 5) (v := 5) (x_dk dn_0_0_ok 63 rfl) (by decide) (by decide))))
  (e_TokL
  (e_LokL (e_stL (er_iadd (x_dk dn_0_0_ok 64 rfl))))
  (e_LokL (Or.inr (Or.inr ⟨rfl, (x_dk dn_0_0_ok 65 rfl)⟩))))))
  (e_TokL
  (e_TokL
  (e_LokL (e_caL (q' := n_274) rfl (xr_callV (q' := n_274) (ix := 17) (n := 5) (in_t10 (List.mem_of_getElem? (i := 236) rfl) rfl) good_w (in_t1 (List.mem_of_getElem? (i := 14) rfl) rfl) (in_t10 (List.mem_of_getElem? (i := 233) rfl) rfl) (in_t10 (List.mem_of_getElem? (i := 234) rfl) rfl) (in_t10 (List.mem_of_getElem? (i := 235) rfl) rfl) (by decide +kernel) (by decide +kernel) (by decide +kernel) (x_dk dn_0_0_ok 66 rfl))))
  (e_TokL
  (e_LokL (e_stL (er_pop (x_dk dn_0_0_ok 67 rfl))))
  (e_LokL (e_stL (er_goto (off := 1826) (tg := 2142) (x_dk dn_0_0_ok 68 rfl) (by decide))))))
  (e_TokL
  (e_LokL (e_stL (er_aload_n (i := 1) (x_dk dn_0_0_ok 69 rfl))))
  (e_TokL
  (e_LokL (e_stL (er_aload_n (i := 0) (x_dk dn_0_0_ok 70 rfl))))
  (e_LokL (e_stL (er_iload_n (i := 3) (x_dk dn_0_0_ok 71 rfl)))))))))
def te_0_72 (L : Nat) (xs : Nat → Int32) : Nat → eE := (e_T 335 (e_T 329 (e_T 324 (e_T 322 (e_L 322 (0, ei_push (0, 1) 323, 0, 0)) (e_T 323 (e_L 323 (0, ei_bin eF_add 324, 0, 0)) (e_L 324 (0, e_S (g_scd L xs 325), 0, 0)))) (e_T 325 (e_L 325 (2, e_nof, 191, 2)) (e_T 328 (e_L 328 (0, ei_stk ef_pop 329, 0, 0)) (e_L 329 (0, ei_load 2 2 330, 0, 0))))) (e_T 332 (e_T 330 (e_L 330 (0, ei_load 0 2 331, 0, 0)) (e_T 331 (e_L 331 (0, ei_load 3 0 332, 0, 0)) (e_L 332 (0, ei_push (0, 1) 333, 0, 0)))) (e_T 333 (e_L 333 (0, ei_bin eF_add 334, 0, 0)) (e_T 334 (e_L 334 (0, e_S (g_scd L xs 335), 0, 0)) (e_L 335 (2, e_nof, 276, 2)))))) (e_T 347 (e_T 342 (e_T 338 (e_L 338 (0, ei_stk ef_pop 339, 0, 0)) (e_T 339 (e_L 339 (0, ei_goto 2142, 0, 0)) (e_L 342 (0, ei_load 1 2 343, 0, 0)))) (e_T 343 (e_L 343 (2, e_nof, 192, 1)) (e_T 346 (e_L 346 (0, ei_stk ef_pop 347, 0, 0)) (e_L 347 (0, ei_load 2 2 348, 0, 0))))) (e_T 352 (e_T 348 (e_L 348 (2, e_nof, 277, 1)) (e_T 351 (e_L 351 (0, ei_stk ef_pop 352, 0, 0)) (e_L 352 (0, ei_goto 2142, 0, 0)))) (e_T 355 (e_L 355 (0, ei_load 1 2 356, 0, 0)) (e_T 356 (e_L 356 (0, ei_load 0 2 357, 0, 0)) (e_L 357 (0, ei_load 3 0 358, 0, 0)))))))
set_option maxRecDepth 20000 in
set_option maxHeartbeats 4000000 in
theorem te_0_72_ok (L : Nat) (xs : Nat → Int32) : ∀ pc, e_EOl L xs pc (te_0_72 L xs pc) :=
  (e_TokL
  (e_TokL
  (e_TokL
  (e_TokL
  (e_LokL (e_stL (er_iconst (n := 1) (z := 1) (v := 1) (x_dk dn_0_0_ok 72 rfl) (by decide) (by decide))))
  (e_TokL
  (e_LokL (e_stL (er_iadd (x_dk dn_0_0_ok 73 rfl))))
  (e_LokL (Or.inr (Or.inr ⟨rfl, (x_dk dn_0_0_ok 74 rfl)⟩)))))
  (e_TokL
  (e_LokL (e_caL (q' := n_191) rfl (xr_callV (q' := n_191) (ix := 18) (n := 1) (in_t4 (List.mem_of_getElem? (i := 165) rfl) rfl) good_w (in_t1 (List.mem_of_getElem? (i := 1) rfl) rfl) (in_t4 (List.mem_of_getElem? (i := 162) rfl) rfl) (in_t4 (List.mem_of_getElem? (i := 163) rfl) rfl) (in_t4 (List.mem_of_getElem? (i := 164) rfl) rfl) (by decide +kernel) (by decide +kernel) (by decide +kernel) (x_dk dn_0_0_ok 75 rfl))))
  (e_TokL
  (e_LokL (e_stL (er_pop (x_dk dn_0_0_ok 76 rfl))))
  (e_LokL (e_stL (er_aload_n (i := 2) (x_dk dn_0_0_ok 77 rfl)))))))
  (e_TokL
  (e_TokL
  (e_LokL (e_stL (er_aload_n (i := 0) (x_dk dn_0_0_ok 78 rfl))))
  (e_TokL
  (e_LokL (e_stL (er_iload_n (i := 3) (x_dk dn_0_0_ok 79 rfl))))
  (e_LokL (e_stL (er_iconst (n := 1) (z := 1) (v := 1) (x_dk dn_0_0_ok 80 rfl) (by decide) (by decide))))))
  (e_TokL
  (e_LokL (e_stL (er_iadd (x_dk dn_0_0_ok 81 rfl))))
  (e_TokL
  (e_LokL (Or.inr (Or.inr ⟨rfl, (x_dk dn_0_0_ok 82 rfl)⟩)))
  (e_LokL (e_caL (q' := n_276) rfl (xr_callV (q' := n_276) (ix := 22) (n := 1) (in_t11 (List.mem_of_getElem? (i := 4) rfl) rfl) good_w (in_t1 (List.mem_of_getElem? (i := 14) rfl) rfl) (in_t11 (List.mem_of_getElem? (i := 1) rfl) rfl) (in_t11 (List.mem_of_getElem? (i := 2) rfl) rfl) (in_t11 (List.mem_of_getElem? (i := 3) rfl) rfl) (by decide +kernel) (by decide +kernel) (by decide +kernel) (x_dk dn_0_0_ok 83 rfl))))))))
  (e_TokL
  (e_TokL
  (e_TokL
  (e_LokL (e_stL (er_pop (x_dk dn_0_0_ok 84 rfl))))
  (e_TokL
  (e_LokL (e_stL (er_goto (off := 1803) (tg := 2142) (x_dk dn_0_0_ok 85 rfl) (by decide))))
  (e_LokL (e_stL (er_aload_n (i := 1) (x_dk dn_0_0_ok 86 rfl))))))
  (e_TokL
  (e_LokL (e_caL (q' := n_192) rfl (xr_callV (q' := n_192) (ix := 23) (n := 0) (in_t4 (List.mem_of_getElem? (i := 172) rfl) rfl) good_w (in_t1 (List.mem_of_getElem? (i := 1) rfl) rfl) (in_t4 (List.mem_of_getElem? (i := 169) rfl) rfl) (in_t4 (List.mem_of_getElem? (i := 170) rfl) rfl) (in_t4 (List.mem_of_getElem? (i := 171) rfl) rfl) (by decide +kernel) (by decide +kernel) (by decide +kernel) (x_dk dn_0_0_ok 87 rfl))))
  (e_TokL
  (e_LokL (e_stL (er_pop (x_dk dn_0_0_ok 88 rfl))))
  (e_LokL (e_stL (er_aload_n (i := 2) (x_dk dn_0_0_ok 89 rfl)))))))
  (e_TokL
  (e_TokL
  (e_LokL (e_caL (q' := n_277) rfl (xr_callV (q' := n_277) (ix := 27) (n := 0) (in_t11 (List.mem_of_getElem? (i := 11) rfl) rfl) good_w (in_t1 (List.mem_of_getElem? (i := 14) rfl) rfl) (in_t11 (List.mem_of_getElem? (i := 8) rfl) rfl) (in_t11 (List.mem_of_getElem? (i := 9) rfl) rfl) (in_t11 (List.mem_of_getElem? (i := 10) rfl) rfl) (by decide +kernel) (by decide +kernel) (by decide +kernel) (x_dk dn_0_0_ok 90 rfl))))
  (e_TokL
  (e_LokL (e_stL (er_pop (x_dk dn_0_0_ok 91 rfl))))
  (e_LokL (e_stL (er_goto (off := 1790) (tg := 2142) (x_dk dn_0_0_ok 92 rfl) (by decide))))))
  (e_TokL
  (e_LokL (e_stL (er_aload_n (i := 1) (x_dk dn_0_0_ok 93 rfl))))
  (e_TokL
  (e_LokL (e_stL (er_aload_n (i := 0) (x_dk dn_0_0_ok 94 rfl))))
  (e_LokL (e_stL (er_iload_n (i := 3) (x_dk dn_0_0_ok 95 rfl)))))))))
def te_0_96 (L : Nat) (xs : Nat → Int32) : Nat → eE := (e_T 369 (e_T 363 (e_T 360 (e_T 358 (e_L 358 (0, ei_push (0, 1) 359, 0, 0)) (e_T 359 (e_L 359 (0, ei_bin eF_add 360, 0, 0)) (e_L 360 (0, e_S (g_scd L xs 361), 0, 0)))) (e_T 361 (e_L 361 (0, ei_load 0 2 362, 0, 0)) (e_T 362 (e_L 362 (0, ei_load 3 0 363, 0, 0)) (e_L 363 (0, ei_push (0, 2) 364, 0, 0))))) (e_T 366 (e_T 364 (e_L 364 (0, ei_bin eF_add 365, 0, 0)) (e_T 365 (e_L 365 (0, e_S (g_scd L xs 366), 0, 0)) (e_L 366 (0, ei_load 0 2 367, 0, 0)))) (e_T 367 (e_L 367 (0, ei_load 3 0 368, 0, 0)) (e_T 368 (e_L 368 (0, ei_push (0, 3) 369, 0, 0)) (e_L 369 (0, ei_bin eF_add 370, 0, 0)))))) (e_T 375 (e_T 372 (e_T 370 (e_L 370 (0, e_S (g_scd L xs 371), 0, 0)) (e_T 371 (e_L 371 (0, ei_load 0 2 372, 0, 0)) (e_L 372 (0, ei_load 3 0 373, 0, 0)))) (e_T 373 (e_L 373 (0, ei_push (0, 4) 374, 0, 0)) (e_T 374 (e_L 374 (0, ei_bin eF_add 375, 0, 0)) (e_L 375 (0, e_S (g_scd L xs 376), 0, 0))))) (e_T 380 (e_T 376 (e_L 376 (2, e_nof, 193, 5)) (e_T 379 (e_L 379 (0, ei_stk ef_pop 380, 0, 0)) (e_L 380 (0, ei_load 2 2 381, 0, 0)))) (e_T 381 (e_L 381 (0, ei_load 0 2 382, 0, 0)) (e_T 382 (e_L 382 (0, ei_load 3 0 383, 0, 0)) (e_L 383 (0, ei_push (0, 1) 384, 0, 0)))))))
set_option maxRecDepth 20000 in
set_option maxHeartbeats 4000000 in
theorem te_0_96_ok (L : Nat) (xs : Nat → Int32) : ∀ pc, e_EOl L xs pc (te_0_96 L xs pc) :=
  (e_TokL
  (e_TokL
  (e_TokL
  (e_TokL
  (e_LokL (e_stL (er_iconst (n := 1) (z := 1) (v := 1) (x_dk dn_0_0_ok 96 rfl) (by decide) (by decide))))
  (e_TokL
  (e_LokL (e_stL (er_iadd (x_dk dn_0_0_ok 97 rfl))))
  (e_LokL (Or.inr (Or.inr ⟨rfl, (x_dk dn_0_0_ok 98 rfl)⟩)))))
  (e_TokL
  (e_LokL (e_stL (er_aload_n (i := 0) (x_dk dn_0_0_ok 99 rfl))))
  (e_TokL
  (e_LokL (e_stL (er_iload_n (i := 3) (x_dk dn_0_1_ok 0 rfl))))
  (e_LokL (e_stL (er_iconst (n := 2) (z := 2) (v := 2) (x_dk dn_0_1_ok 1 rfl) (by decide) (by decide)))))))
  (e_TokL
  (e_TokL
  (e_LokL (e_stL (er_iadd (x_dk dn_0_1_ok 2 rfl))))
  (e_TokL
  (e_LokL (Or.inr (Or.inr ⟨rfl, (x_dk dn_0_1_ok 3 rfl)⟩)))
  (e_LokL (e_stL (er_aload_n (i := 0) (x_dk dn_0_1_ok 4 rfl))))))
  (e_TokL
  (e_LokL (e_stL (er_iload_n (i := 3) (x_dk dn_0_1_ok 5 rfl))))
  (e_TokL
  (e_LokL (e_stL (er_iconst (n := 3) (z := 3) (v := 3) (x_dk dn_0_1_ok 6 rfl) (by decide) (by decide))))
  (e_LokL (e_stL (er_iadd (x_dk dn_0_1_ok 7 rfl))))))))
  (e_TokL
  (e_TokL
  (e_TokL
  (e_LokL (Or.inr (Or.inr ⟨rfl, (x_dk dn_0_1_ok 8 rfl)⟩)))
  (e_TokL
  (e_LokL (e_stL (er_aload_n (i := 0) (x_dk dn_0_1_ok 9 rfl))))
  (e_LokL (e_stL (er_iload_n (i := 3) (x_dk dn_0_1_ok 10 rfl))))))
  (e_TokL
  (e_LokL (e_stL (er_iconst (n := 4) (z := 4) (v := 4) (x_dk dn_0_1_ok 11 rfl) (by decide) (by decide))))
  (e_TokL
  (e_LokL (e_stL (er_iadd (x_dk dn_0_1_ok 12 rfl))))
  (e_LokL (Or.inr (Or.inr ⟨rfl, (x_dk dn_0_1_ok 13 rfl)⟩))))))
  (e_TokL
  (e_TokL
  (e_LokL (e_caL (q' := n_193) rfl (xr_callV (q' := n_193) (ix := 28) (n := 4) (in_t4 (List.mem_of_getElem? (i := 176) rfl) rfl) good_w (in_t1 (List.mem_of_getElem? (i := 1) rfl) rfl) (in_t4 (List.mem_of_getElem? (i := 173) rfl) rfl) (in_t4 (List.mem_of_getElem? (i := 174) rfl) rfl) (in_t4 (List.mem_of_getElem? (i := 175) rfl) rfl) (by decide +kernel) (by decide +kernel) (by decide +kernel) (x_dk dn_0_1_ok 14 rfl))))
  (e_TokL
  (e_LokL (e_stL (er_pop (x_dk dn_0_1_ok 15 rfl))))
  (e_LokL (e_stL (er_aload_n (i := 2) (x_dk dn_0_1_ok 16 rfl))))))
  (e_TokL
  (e_LokL (e_stL (er_aload_n (i := 0) (x_dk dn_0_1_ok 17 rfl))))
  (e_TokL
  (e_LokL (e_stL (er_iload_n (i := 3) (x_dk dn_0_1_ok 18 rfl))))
  (e_LokL (e_stL (er_iconst (n := 1) (z := 1) (v := 1) (x_dk dn_0_1_ok 19 rfl) (by decide) (by decide)))))))))
def te_0_120 (L : Nat) (xs : Nat → Int32) : Nat → eE := (e_T 395 (e_T 389 (e_T 386 (e_T 384 (e_L 384 (0, ei_bin eF_add 385, 0, 0)) (e_T 385 (e_L 385 (0, e_S (g_scd L xs 386), 0, 0)) (e_L 386 (0, ei_load 0 2 387, 0, 0)))) (e_T 387 (e_L 387 (0, ei_load 3 0 388, 0, 0)) (e_T 388 (e_L 388 (0, ei_push (0, 2) 389, 0, 0)) (e_L 389 (0, ei_bin eF_add 390, 0, 0))))) (e_T 392 (e_T 390 (e_L 390 (0, e_S (g_scd L xs 391), 0, 0)) (e_T 391 (e_L 391 (0, ei_load 0 2 392, 0, 0)) (e_L 392 (0, ei_load 3 0 393, 0, 0)))) (e_T 393 (e_L 393 (0, ei_push (0, 3) 394, 0, 0)) (e_T 394 (e_L 394 (0, ei_bin eF_add 395, 0, 0)) (e_L 395 (0, e_S (g_scd L xs 396), 0, 0)))))) (e_T 401 (e_T 398 (e_T 396 (e_L 396 (0, ei_load 0 2 397, 0, 0)) (e_T 397 (e_L 397 (0, ei_load 3 0 398, 0, 0)) (e_L 398 (0, ei_push (0, 4) 399, 0, 0)))) (e_T 399 (e_L 399 (0, ei_bin eF_add 400, 0, 0)) (e_T 400 (e_L 400 (0, e_S (g_scd L xs 401), 0, 0)) (e_L 401 (2, e_nof, 278, 5))))) (e_T 408 (e_T 404 (e_L 404 (0, ei_stk ef_pop 405, 0, 0)) (e_T 405 (e_L 405 (0, ei_goto 2142, 0, 0)) (e_L 408 (0, ei_load 1 2 409, 0, 0)))) (e_T 409 (e_L 409 (0, ei_load 0 2 410, 0, 0)) (e_T 410 (e_L 410 (0, ei_load 3 0 411, 0, 0)) (e_L 411 (0, ei_push (0, 1) 412, 0, 0)))))))
set_option maxRecDepth 20000 in
set_option maxHeartbeats 4000000 in
theorem te_0_120_ok (L : Nat) (xs : Nat → Int32) : ∀ pc, e_EOl L xs pc (te_0_120 L xs pc) :=
  (e_TokL
  (e_TokL
  (e_TokL
  (e_TokL
  (e_LokL (e_stL (er_iadd (x_dk dn_0_1_ok 20 rfl))))
  (e_TokL
  (e_LokL (Or.inr (Or.inr ⟨rfl, (x_dk dn_0_1_ok 21 rfl)⟩)))
  (e_LokL (e_stL (er_aload_n (i := 0) (x_dk dn_0_1_ok 22 rfl))))))
  (e_TokL
  (e_LokL (e_stL (er_iload_n (i := 3) (x_dk dn_0_1_ok 23 rfl))))
  (e_TokL
  (e_LokL (e_stL (er_iconst (n := 2) (z := 2) (v := 2) (x_dk dn_0_1_ok 24 rfl) (by decide) (by decide))))
  (e_LokL (e_stL (er_iadd (x_dk dn_0_1_ok 25 rfl)))))))
  (e_TokL
  (e_TokL
  (e_LokL (Or.inr (Or.inr ⟨rfl, (x_dk dn_0_1_ok 26 rfl)⟩)))
  (e_TokL
  (e_LokL (e_stL (er_aload_n (i := 0) (x_dk dn_0_1_ok 27 rfl))))
  (e_LokL (e_stL (er_iload_n (i := 3) (x_dk dn_0_1_ok 28 rfl))))))
  (e_TokL
  (e_LokL (e_stL (er_iconst (n := 3) (z := 3) (v := 3) (x_dk dn_0_1_ok 29 rfl) (by decide) (by decide))))
  (e_TokL
  (e_LokL (e_stL (er_iadd (x_dk dn_0_1_ok 30 rfl))))
  (e_LokL (Or.inr (Or.inr ⟨rfl, (x_dk dn_0_1_ok 31 rfl)⟩)))))))
  (e_TokL
  (e_TokL
  (e_TokL
  (e_LokL (e_stL (er_aload_n (i := 0) (x_dk dn_0_1_ok 32 rfl))))
  (e_TokL
  (e_LokL (e_stL (er_iload_n (i := 3) (x_dk dn_0_1_ok 33 rfl))))
  (e_LokL (e_stL (er_iconst (n := 4) (z := 4) (v := 4) (x_dk dn_0_1_ok 34 rfl) (by decide) (by decide))))))
  (e_TokL
  (e_LokL (e_stL (er_iadd (x_dk dn_0_1_ok 35 rfl))))
  (e_TokL
  (e_LokL (Or.inr (Or.inr ⟨rfl, (x_dk dn_0_1_ok 36 rfl)⟩)))
  (e_LokL (e_caL (q' := n_278) rfl (xr_callV (q' := n_278) (ix := 32) (n := 4) (in_t11 (List.mem_of_getElem? (i := 15) rfl) rfl) good_w (in_t1 (List.mem_of_getElem? (i := 14) rfl) rfl) (in_t11 (List.mem_of_getElem? (i := 12) rfl) rfl) (in_t11 (List.mem_of_getElem? (i := 13) rfl) rfl) (in_t11 (List.mem_of_getElem? (i := 14) rfl) rfl) (by decide +kernel) (by decide +kernel) (by decide +kernel) (x_dk dn_0_1_ok 37 rfl)))))))
  (e_TokL
  (e_TokL
  (e_LokL (e_stL (er_pop (x_dk dn_0_1_ok 38 rfl))))
  (e_TokL
  (e_LokL (e_stL (er_goto (off := 1737) (tg := 2142) (x_dk dn_0_1_ok 39 rfl) (by decide))))
  (e_LokL (e_stL (er_aload_n (i := 1) (x_dk dn_0_1_ok 40 rfl))))))
  (e_TokL
  (e_LokL (e_stL (er_aload_n (i := 0) (x_dk dn_0_1_ok 41 rfl))))
  (e_TokL
  (e_LokL (e_stL (er_iload_n (i := 3) (x_dk dn_0_1_ok 42 rfl))))
  (e_LokL (e_stL (er_iconst (n := 1) (z := 1) (v := 1) (x_dk dn_0_1_ok 43 rfl) (by decide) (by decide)))))))))
def te_0_144 (L : Nat) (xs : Nat → Int32) : Nat → eE := (e_T 423 (e_T 417 (e_T 414 (e_T 412 (e_L 412 (0, ei_bin eF_add 413, 0, 0)) (e_T 413 (e_L 413 (0, e_S (g_scd L xs 414), 0, 0)) (e_L 414 (0, ei_load 0 2 415, 0, 0)))) (e_T 415 (e_L 415 (0, ei_load 3 0 416, 0, 0)) (e_T 416 (e_L 416 (0, ei_push (0, 2) 417, 0, 0)) (e_L 417 (0, ei_bin eF_add 418, 0, 0))))) (e_T 420 (e_T 418 (e_L 418 (0, e_S (g_scd L xs 419), 0, 0)) (e_T 419 (e_L 419 (0, ei_load 0 2 420, 0, 0)) (e_L 420 (0, ei_load 3 0 421, 0, 0)))) (e_T 421 (e_L 421 (0, ei_push (0, 3) 422, 0, 0)) (e_T 422 (e_L 422 (0, ei_bin eF_add 423, 0, 0)) (e_L 423 (0, e_S (g_scd L xs 424), 0, 0)))))) (e_T 429 (e_T 426 (e_T 424 (e_L 424 (0, ei_load 0 2 425, 0, 0)) (e_T 425 (e_L 425 (0, ei_load 3 0 426, 0, 0)) (e_L 426 (0, ei_push (0, 4) 427, 0, 0)))) (e_T 427 (e_L 427 (0, ei_bin eF_add 428, 0, 0)) (e_T 428 (e_L 428 (0, e_S (g_scd L xs 429), 0, 0)) (e_L 429 (0, ei_load 0 2 430, 0, 0))))) (e_T 432 (e_T 430 (e_L 430 (0, ei_load 3 0 431, 0, 0)) (e_T 431 (e_L 431 (0, ei_push (0, 5) 432, 0, 0)) (e_L 432 (0, ei_bin eF_add 433, 0, 0)))) (e_T 433 (e_L 433 (0, e_S (g_scd L xs 434), 0, 0)) (e_T 434 (e_L 434 (2, e_nof, 194, 6)) (e_L 437 (0, ei_stk ef_pop 438, 0, 0)))))))
set_option maxRecDepth 20000 in
set_option maxHeartbeats 4000000 in
theorem te_0_144_ok (L : Nat) (xs : Nat → Int32) : ∀ pc, e_EOl L xs pc (te_0_144 L xs pc) :=
  (e_TokL
  (e_TokL
  (e_TokL
  (e_TokL
  (e_LokL (e_stL (er_iadd (x_dk dn_0_1_ok 44 rfl))))
  (e_TokL
  (e_LokL (Or.inr (Or.inr ⟨rfl, (x_dk dn_0_1_ok 45 rfl)⟩)))
  (e_LokL (e_stL (er_aload_n (i := 0) (x_dk dn_0_1_ok 46 rfl))))))
  (e_TokL
  (e_LokL (e_stL (er_iload_n (i := 3) (x_dk dn_0_1_ok 47 rfl))))
  (e_TokL
  (e_LokL (e_stL (er_iconst (n := 2) (z := 2) (v := 2) (x_dk dn_0_1_ok 48 rfl) (by decide) (by decide))))
  (e_LokL (e_stL (er_iadd (x_dk dn_0_1_ok 49 rfl)))))))
  (e_TokL
  (e_TokL
  (e_LokL (Or.inr (Or.inr ⟨rfl, (x_dk dn_0_1_ok 50 rfl)⟩)))
  (e_TokL
  (e_LokL (e_stL (er_aload_n (i := 0) (x_dk dn_0_1_ok 51 rfl))))
  (e_LokL (e_stL (er_iload_n (i := 3) (x_dk dn_0_1_ok 52 rfl))))))
  (e_TokL
  (e_LokL (e_stL (er_iconst (n := 3) (z := 3) (v := 3) (x_dk dn_0_1_ok 53 rfl) (by decide) (by decide))))
  (e_TokL
  (e_LokL (e_stL (er_iadd (x_dk dn_0_1_ok 54 rfl))))
  (e_LokL (Or.inr (Or.inr ⟨rfl, (x_dk dn_0_1_ok 55 rfl)⟩)))))))
  (e_TokL
  (e_TokL
  (e_TokL
  (e_LokL (e_stL (er_aload_n (i := 0) (x_dk dn_0_1_ok 56 rfl))))
  (e_TokL
  (e_LokL (e_stL (er_iload_n (i := 3) (x_dk dn_0_1_ok 57 rfl))))
  (e_LokL (e_stL (er_iconst (n := 4) (z := 4) (v := 4) (x_dk dn_0_1_ok 58 rfl) (by decide) (by decide))))))
  (e_TokL
  (e_LokL (e_stL (er_iadd (x_dk dn_0_1_ok 59 rfl))))
  (e_TokL
  (e_LokL (Or.inr (Or.inr ⟨rfl, (x_dk dn_0_1_ok 60 rfl)⟩)))
  (e_LokL (e_stL (er_aload_n (i := 0) (x_dk dn_0_1_ok 61 rfl)))))))
  (e_TokL
  (e_TokL
  (e_LokL (e_stL (er_iload_n (i := 3) (x_dk dn_0_1_ok 62 rfl))))
  (e_TokL
  (e_LokL (e_stL (er_iconst (n := 5) (z := 5) (v := 5) (x_dk dn_0_1_ok 63 rfl) (by decide) (by decide))))
  (e_LokL (e_stL (er_iadd (x_dk dn_0_1_ok 64 rfl))))))
  (e_TokL
  (e_LokL (Or.inr (Or.inr ⟨rfl, (x_dk dn_0_1_ok 65 rfl)⟩)))
  (e_TokL
  (e_LokL (e_caL (q' := n_194) rfl (xr_callV (q' := n_194) (ix := 33) (n := 5) (in_t4 (List.mem_of_getElem? (i := 180) rfl) rfl) good_w (in_t1 (List.mem_of_getElem? (i := 1) rfl) rfl) (in_t4 (List.mem_of_getElem? (i := 177) rfl) rfl) (in_t4 (List.mem_of_getElem? (i := 178) rfl) rfl) (in_t4 (List.mem_of_getElem? (i := 179) rfl) rfl) (by decide +kernel) (by decide +kernel) (by decide +kernel) (x_dk dn_0_1_ok 66 rfl))))
  (e_LokL (e_stL (er_pop (x_dk dn_0_1_ok 67 rfl)))))))))
def te_0_168 (L : Nat) (xs : Nat → Int32) : Nat → eE := (e_T 449 (e_T 443 (e_T 440 (e_T 438 (e_L 438 (0, ei_load 2 2 439, 0, 0)) (e_T 439 (e_L 439 (0, ei_load 0 2 440, 0, 0)) (e_L 440 (0, ei_load 3 0 441, 0, 0)))) (e_T 441 (e_L 441 (0, ei_push (0, 1) 442, 0, 0)) (e_T 442 (e_L 442 (0, ei_bin eF_add 443, 0, 0)) (e_L 443 (0, e_S (g_scd L xs 444), 0, 0))))) (e_T 446 (e_T 444 (e_L 444 (0, ei_load 0 2 445, 0, 0)) (e_T 445 (e_L 445 (0, ei_load 3 0 446, 0, 0)) (e_L 446 (0, ei_push (0, 2) 447, 0, 0)))) (e_T 447 (e_L 447 (0, ei_bin eF_add 448, 0, 0)) (e_T 448 (e_L 448 (0, e_S (g_scd L xs 449), 0, 0)) (e_L 449 (0, ei_load 0 2 450, 0, 0)))))) (e_T 455 (e_T 452 (e_T 450 (e_L 450 (0, ei_load 3 0 451, 0, 0)) (e_T 451 (e_L 451 (0, ei_push (0, 3) 452, 0, 0)) (e_L 452 (0, ei_bin eF_add 453, 0, 0)))) (e_T 453 (e_L 453 (0, e_S (g_scd L xs 454), 0, 0)) (e_T 454 (e_L 454 (0, ei_load 0 2 455, 0, 0)) (e_L 455 (0, ei_load 3 0 456, 0, 0))))) (e_T 458 (e_T 456 (e_L 456 (0, ei_push (0, 4) 457, 0, 0)) (e_T 457 (e_L 457 (0, ei_bin eF_add 458, 0, 0)) (e_L 458 (0, e_S (g_scd L xs 459), 0, 0)))) (e_T 460 (e_T 459 (e_L 459 (0, ei_load 0 2 460, 0, 0)) (e_L 460 (0, ei_load 3 0 461, 0, 0))) (e_T 461 (e_L 461 (0, ei_push (0, 5) 462, 0, 0)) (e_L 462 (0, ei_bin eF_add 463, 0, 0)))))))
set_option maxRecDepth 20000 in
set_option maxHeartbeats 4000000 in
theorem te_0_168_ok (L : Nat) (xs : Nat → Int32) : ∀ pc, e_EOl L xs pc (te_0_168 L xs pc) :=
  (e_TokL
  (e_TokL
  (e_TokL
  (e_TokL
  (e_LokL (e_stL (er_aload_n (i := 2) (x_dk dn_0_1_ok 68 rfl))))
  (e_TokL
  (e_LokL (e_stL (er_aload_n (i := 0) (x_dk dn_0_1_ok 69 rfl))))
  (e_LokL (e_stL (er_iload_n (i := 3) (x_dk dn_0_1_ok 70 rfl))))))
  (e_TokL
  (e_LokL (e_stL (er_iconst (n := 1) (z := 1) (v := 1) (x_dk dn_0_1_ok 71 rfl) (by decide) (by decide))))
  (e_TokL
  (e_LokL (e_stL (er_iadd (x_dk dn_0_1_ok 72 rfl))))
  (e_LokL (Or.inr (Or.inr ⟨rfl, (x_dk dn_0_1_ok 73 rfl)⟩))))))
  (e_TokL
  (e_TokL
  (e_LokL (e_stL (er_aload_n (i := 0) (x_dk dn_0_1_ok 74 rfl))))
  (e_TokL
  (e_LokL (e_stL (er_iload_n (i := 3) (x_dk dn_0_1_ok 75 rfl))))
  (e_LokL (e_stL (er_iconst (n := 2) (z := 2) (v := 2) (x_dk dn_0_1_ok 76 rfl) (by decide) (by decide))))))
  (e_TokL
  (e_LokL (e_stL (er_iadd (x_dk dn_0_1_ok 77 rfl))))
  (e_TokL
  (e_LokL (Or.inr (Or.inr ⟨rfl, (x_dk dn_0_1_ok 78 rfl)⟩)))
  (e_LokL (e_stL (er_aload_n (i := 0) (x_dk dn_0_1_ok 79 rfl))))))))
  (e_TokL
  (e_TokL
  (e_TokL
  (e_LokL (e_stL (er_iload_n (i := 3) (x_dk dn_0_1_ok 80 rfl))))
  (e_TokL
  (e_LokL (e_stL (er_iconst (n := 3) (z := 3) (v := 3) (x_dk dn_0_1_ok 81 rfl) (by decide) (by decide))))
  (e_LokL (e_stL (er_iadd (x_dk dn_0_1_ok 82 rfl))))))
  (e_TokL
  (e_LokL (Or.inr (Or.inr ⟨rfl, (x_dk dn_0_1_ok 83 rfl)⟩)))
  (e_TokL
  (e_LokL (e_stL (er_aload_n (i := 0) (x_dk dn_0_1_ok 84 rfl))))
  (e_LokL (e_stL (er_iload_n (i := 3) (x_dk dn_0_1_ok 85 rfl)))))))
  (e_TokL
  (e_TokL
  (e_LokL (e_stL (er_iconst (n := 4) (z := 4) (v := 4) (x_dk dn_0_1_ok 86 rfl) (by decide) (by decide))))
  (e_TokL
  (e_LokL (e_stL (er_iadd (x_dk dn_0_1_ok 87 rfl))))
  (e_LokL (Or.inr (Or.inr ⟨rfl, (x_dk dn_0_1_ok 88 rfl)⟩)))))
  (e_TokL
  (e_TokL
  (e_LokL (e_stL (er_aload_n (i := 0) (x_dk dn_0_1_ok 89 rfl))))
  (e_LokL (e_stL (er_iload_n (i := 3) (x_dk dn_0_1_ok 90 rfl)))))
  (e_TokL
  (e_LokL (e_stL (er_iconst (n := 5) (z := 5) (v := 5) (x_dk dn_0_1_ok 91 rfl) (by decide) (by decide))))
  (e_LokL (e_stL (er_iadd (x_dk dn_0_1_ok 92 rfl)))))))))
def te_0_193 (L : Nat) (xs : Nat → Int32) : Nat → eE := (e_T 478 (e_T 472 (e_T 467 (e_T 463 (e_L 463 (0, e_S (g_scd L xs 464), 0, 0)) (e_T 464 (e_L 464 (2, e_nof, 279, 6)) (e_L 467 (0, ei_stk ef_pop 468, 0, 0)))) (e_T 468 (e_L 468 (0, ei_goto 2142, 0, 0)) (e_T 471 (e_L 471 (0, ei_load 1 2 472, 0, 0)) (e_L 472 (0, ei_load 0 2 473, 0, 0))))) (e_T 475 (e_T 473 (e_L 473 (0, ei_load 3 0 474, 0, 0)) (e_T 474 (e_L 474 (0, ei_push (0, 1) 475, 0, 0)) (e_L 475 (0, ei_bin eF_add 476, 0, 0)))) (e_T 476 (e_L 476 (0, e_S (g_scd L xs 477), 0, 0)) (e_T 477 (e_L 477 (0, ei_load 0 2 478, 0, 0)) (e_L 478 (0, ei_load 3 0 479, 0, 0)))))) (e_T 484 (e_T 481 (e_T 479 (e_L 479 (0, ei_push (0, 2) 480, 0, 0)) (e_T 480 (e_L 480 (0, ei_bin eF_add 481, 0, 0)) (e_L 481 (0, e_S (g_scd L xs 482), 0, 0)))) (e_T 482 (e_L 482 (0, ei_load 0 2 483, 0, 0)) (e_T 483 (e_L 483 (0, ei_load 3 0 484, 0, 0)) (e_L 484 (0, ei_push (0, 3) 485, 0, 0))))) (e_T 487 (e_T 485 (e_L 485 (0, ei_bin eF_add 486, 0, 0)) (e_T 486 (e_L 486 (0, e_S (g_scd L xs 487), 0, 0)) (e_L 487 (0, ei_load 0 2 488, 0, 0)))) (e_T 488 (e_L 488 (0, ei_load 3 0 489, 0, 0)) (e_T 489 (e_L 489 (0, ei_push (0, 4) 490, 0, 0)) (e_L 490 (0, ei_bin eF_add 491, 0, 0)))))))
set_option maxRecDepth 20000 in
set_option maxHeartbeats 4000000 in
theorem te_0_193_ok (L : Nat) (xs : Nat → Int32) : ∀ pc, e_EOl L xs pc (te_0_193 L xs pc) :=
  (e_TokL
  (e_TokL
  (e_TokL
  (e_TokL
  (e_LokL (Or.inr (Or.inr ⟨rfl, (x_dk dn_0_1_ok 93 rfl)⟩)))
  (e_TokL
  (e_LokL (e_caL (q' := n_279) rfl (xr_callV (q' := n_279) (ix := 36) (n := 5) (in_t11 (List.mem_of_getElem? (i := 23) rfl) rfl) good_w (in_t1 (List.mem_of_getElem? (i := 14) rfl) rfl) (in_t11 (List.mem_of_getElem? (i := 20) rfl) rfl) (in_t11 (List.mem_of_getElem? (i := 21) rfl) rfl) (in_t11 (List.mem_of_getElem? (i := 22) rfl) rfl) (by decide +kernel) (by decide +kernel) (by decide +kernel) (x_dk dn_0_1_ok 94 rfl))))
  (e_LokL (e_stL (er_pop (x_dk dn_0_1_ok 95 rfl))))))
  (e_TokL
  (e_LokL (e_stL (er_goto (off := 1674) (tg := 2142) (x_dk dn_0_1_ok 96 rfl) (by decide))))
  (e_TokL
  (e_LokL (e_stL (er_aload_n (i := 1) (x_dk dn_0_1_ok 97 rfl))))
  (e_LokL (e_stL (er_aload_n (i := 0) (x_dk dn_0_1_ok 98 rfl)))))))
  (e_TokL
  (e_TokL
  (e_LokL (e_stL (er_iload_n (i := 3) (x_dk dn_0_1_ok 99 rfl))))
  (e_TokL
  (e_LokL (e_stL (er_iconst (n := 1) (z := 1) (v := 1) (x_dk dn_0_2_ok 0 rfl) (by decide) (by decide))))
  (e_LokL (e_stL (er_iadd (x_dk dn_0_2_ok 1 rfl))))))
  (e_TokL
  (e_LokL (Or.inr (Or.inr ⟨rfl, (x_dk dn_0_2_ok 2 rfl)⟩)))
  (e_TokL
  (e_LokL (e_stL (er_aload_n (i := 0) (x_dk dn_0_2_ok 3 rfl))))
  (e_LokL (e_stL (er_iload_n (i := 3) (x_dk dn_0_2_ok 4 rfl))))))))
  (e_TokL
  (e_TokL
  (e_TokL
  (e_LokL (e_stL (er_iconst (n := 2) (z := 2) (v := 2) (x_dk dn_0_2_ok 5 rfl) (by decide) (by decide))))
  (e_TokL
  (e_LokL (e_stL (er_iadd (x_dk dn_0_2_ok 6 rfl))))
  (e_LokL (Or.inr (Or.inr ⟨rfl, (x_dk dn_0_2_ok 7 rfl)⟩)))))
  (e_TokL
  (e_LokL (e_stL (er_aload_n (i := 0) (x_dk dn_0_2_ok 8 rfl))))
  (e_TokL
  (e_LokL (e_stL (er_iload_n (i := 3) (x_dk dn_0_2_ok 9 rfl))))
  (e_LokL (e_stL (er_iconst (n := 3) (z := 3) (v := 3) (x_dk dn_0_2_ok 10 rfl) (by decide) (by decide)))))))
  (e_TokL
  (e_TokL
  (e_LokL (e_stL (er_iadd (x_dk dn_0_2_ok 11 rfl))))
  (e_TokL
  (e_LokL (Or.inr (Or.inr ⟨rfl, (x_dk dn_0_2_ok 12 rfl)⟩)))
  (e_LokL (e_stL (er_aload_n (i := 0) (x_dk dn_0_2_ok 13 rfl))))))
  (e_TokL
  (e_LokL (e_stL (er_iload_n (i := 3) (x_dk dn_0_2_ok 14 rfl))))
  (e_TokL
  (e_LokL (e_stL (er_iconst (n := 4) (z := 4) (v := 4) (x_dk dn_0_2_ok 15 rfl) (by decide) (by decide))))
  (e_LokL (e_stL (er_iadd (x_dk dn_0_2_ok 16 rfl)))))))))
def te_0_217 (L : Nat) (xs : Nat → Int32) : Nat → eE := (e_T 504 (e_T 498 (e_T 495 (e_T 491 (e_L 491 (0, e_S (g_scd L xs 492), 0, 0)) (e_T 492 (e_L 492 (2, e_nof, 195, 5)) (e_L 495 (0, ei_stk ef_pop 496, 0, 0)))) (e_T 496 (e_L 496 (0, ei_load 2 2 497, 0, 0)) (e_T 497 (e_L 497 (0, ei_load 0 2 498, 0, 0)) (e_L 498 (0, ei_load 3 0 499, 0, 0))))) (e_T 501 (e_T 499 (e_L 499 (0, ei_push (0, 1) 500, 0, 0)) (e_T 500 (e_L 500 (0, ei_bin eF_add 501, 0, 0)) (e_L 501 (0, e_S (g_scd L xs 502), 0, 0)))) (e_T 502 (e_L 502 (0, ei_load 0 2 503, 0, 0)) (e_T 503 (e_L 503 (0, ei_load 3 0 504, 0, 0)) (e_L 504 (0, ei_push (0, 2) 505, 0, 0)))))) (e_T 510 (e_T 507 (e_T 505 (e_L 505 (0, ei_bin eF_add 506, 0, 0)) (e_T 506 (e_L 506 (0, e_S (g_scd L xs 507), 0, 0)) (e_L 507 (0, ei_load 0 2 508, 0, 0)))) (e_T 508 (e_L 508 (0, ei_load 3 0 509, 0, 0)) (e_T 509 (e_L 509 (0, ei_push (0, 3) 510, 0, 0)) (e_L 510 (0, ei_bin eF_add 511, 0, 0))))) (e_T 513 (e_T 511 (e_L 511 (0, e_S (g_scd L xs 512), 0, 0)) (e_T 512 (e_L 512 (0, ei_load 0 2 513, 0, 0)) (e_L 513 (0, ei_load 3 0 514, 0, 0)))) (e_T 514 (e_L 514 (0, ei_push (0, 4) 515, 0, 0)) (e_T 515 (e_L 515 (0, ei_bin eF_add 516, 0, 0)) (e_L 516 (0, e_S (g_scd L xs 517), 0, 0)))))))
set_option maxRecDepth 20000 in
set_option maxHeartbeats 4000000 in
theorem te_0_217_ok (L : Nat) (xs : Nat → Int32) : ∀ pc, e_EOl L xs pc (te_0_217 L xs pc) :=
  (e_TokL
  (e_TokL
  (e_TokL
  (e_TokL
  (e_LokL (Or.inr (Or.inr ⟨rfl, (x_dk dn_0_2_ok 17 rfl)⟩)))
  (e_TokL
  (e_LokL (e_caL (q' := n_195) rfl (xr_callV (q' := n_195) (ix := 37) (n := 4) (in_t4 (List.mem_of_getElem? (i := 197) rfl) rfl) good_w (in_t1 (List.mem_of_getElem? (i := 1) rfl) rfl) (in_t4 (List.mem_of_getElem? (i := 194) rfl) rfl) (in_t4 (List.mem_of_getElem? (i := 195) rfl) rfl) (in_t4 (List.mem_of_getElem? (i := 196) rfl) rfl) (by decide +kernel) (by decide +kernel) (by decide +kernel) (x_dk dn_0_2_ok 18 rfl))))
  (e_LokL (e_stL (er_pop (x_dk dn_0_2_ok 19 rfl))))))
  (e_TokL
  (e_LokL (e_stL (er_aload_n (i := 2) (x_dk dn_0_2_ok 20 rfl))))
  (e_TokL
  (e_LokL (e_stL (er_aload_n (i := 0) (x_dk dn_0_2_ok 21 rfl))))
  (e_LokL (e_stL (er_iload_n (i := 3) (x_dk dn_0_2_ok 22 rfl)))))))
  (e_TokL
  (e_TokL
  (e_LokL (e_stL (er_iconst (n := 1) (z := 1) (v := 1) (x_dk dn_0_2_ok 23 rfl) (by decide) (by decide))))
  (e_TokL
  (e_LokL (e_stL (er_iadd (x_dk dn_0_2_ok 24 rfl))))
  (e_LokL (Or.inr (Or.inr ⟨rfl, (x_dk dn_0_2_ok 25 rfl)⟩)))))
  (e_TokL
  (e_LokL (e_stL (er_aload_n (i := 0) (x_dk dn_0_2_ok 26 rfl))))
  (e_TokL
  (e_LokL (e_stL (er_iload_n (i := 3) (x_dk dn_0_2_ok 27 rfl))))
  (e_LokL (e_stL (er_iconst (n := 2) (z := 2) (v := 2) (x_dk dn_0_2_ok 28 rfl) (by decide) (by decide))))))))
  (e_TokL
  (e_TokL
  (e_TokL
  (e_LokL (e_stL (er_iadd (x_dk dn_0_2_ok 29 rfl))))
  (e_TokL
  (e_LokL (Or.inr (Or.inr ⟨rfl, (x_dk dn_0_2_ok 30 rfl)⟩)))
  (e_LokL (e_stL (er_aload_n (i := 0) (x_dk dn_0_2_ok 31 rfl))))))
  (e_TokL
  (e_LokL (e_stL (er_iload_n (i := 3) (x_dk dn_0_2_ok 32 rfl))))
  (e_TokL
  (e_LokL (e_stL (er_iconst (n := 3) (z := 3) (v := 3) (x_dk dn_0_2_ok 33 rfl) (by decide) (by decide))))
  (e_LokL (e_stL (er_iadd (x_dk dn_0_2_ok 34 rfl)))))))
  (e_TokL
  (e_TokL
  (e_LokL (Or.inr (Or.inr ⟨rfl, (x_dk dn_0_2_ok 35 rfl)⟩)))
  (e_TokL
  (e_LokL (e_stL (er_aload_n (i := 0) (x_dk dn_0_2_ok 36 rfl))))
  (e_LokL (e_stL (er_iload_n (i := 3) (x_dk dn_0_2_ok 37 rfl))))))
  (e_TokL
  (e_LokL (e_stL (er_iconst (n := 4) (z := 4) (v := 4) (x_dk dn_0_2_ok 38 rfl) (by decide) (by decide))))
  (e_TokL
  (e_LokL (e_stL (er_iadd (x_dk dn_0_2_ok 39 rfl))))
  (e_LokL (Or.inr (Or.inr ⟨rfl, (x_dk dn_0_2_ok 40 rfl)⟩))))))))
def te_0_241 (L : Nat) (xs : Nat → Int32) : Nat → eE := (e_T 532 (e_T 526 (e_T 521 (e_T 517 (e_L 517 (2, e_nof, 281, 5)) (e_T 520 (e_L 520 (0, ei_stk ef_pop 521, 0, 0)) (e_L 521 (0, ei_goto 2142, 0, 0)))) (e_T 524 (e_L 524 (0, ei_load 1 2 525, 0, 0)) (e_T 525 (e_L 525 (0, ei_load 0 2 526, 0, 0)) (e_L 526 (0, ei_load 3 0 527, 0, 0))))) (e_T 529 (e_T 527 (e_L 527 (0, ei_push (0, 1) 528, 0, 0)) (e_T 528 (e_L 528 (0, ei_bin eF_add 529, 0, 0)) (e_L 529 (0, e_S (g_scd L xs 530), 0, 0)))) (e_T 530 (e_L 530 (0, ei_load 0 2 531, 0, 0)) (e_T 531 (e_L 531 (0, ei_load 3 0 532, 0, 0)) (e_L 532 (0, ei_push (0, 2) 533, 0, 0)))))) (e_T 538 (e_T 535 (e_T 533 (e_L 533 (0, ei_bin eF_add 534, 0, 0)) (e_T 534 (e_L 534 (0, e_S (g_scd L xs 535), 0, 0)) (e_L 535 (0, ei_load 0 2 536, 0, 0)))) (e_T 536 (e_L 536 (0, ei_load 3 0 537, 0, 0)) (e_T 537 (e_L 537 (0, ei_push (0, 3) 538, 0, 0)) (e_L 538 (0, ei_bin eF_add 539, 0, 0))))) (e_T 543 (e_T 539 (e_L 539 (0, e_S (g_scd L xs 540), 0, 0)) (e_T 540 (e_L 540 (2, e_nof, 196, 4)) (e_L 543 (0, ei_stk ef_pop 544, 0, 0)))) (e_T 544 (e_L 544 (0, ei_load 2 2 545, 0, 0)) (e_T 545 (e_L 545 (0, ei_load 0 2 546, 0, 0)) (e_L 546 (0, ei_load 3 0 547, 0, 0)))))))
set_option maxRecDepth 20000 in
set_option maxHeartbeats 4000000 in
theorem te_0_241_ok (L : Nat) (xs : Nat → Int32) : ∀ pc, e_EOl L xs pc (te_0_241 L xs pc) :=
  (e_TokL
  (e_TokL
  (e_TokL
  (e_TokL
  (e_LokL (e_caL (q' := n_281) rfl (xr_callV (q' := n_281) (ix := 40) (n := 4) (in_t11 (List.mem_of_getElem? (i := 40) rfl) rfl) good_w (in_t1 (List.mem_of_getElem? (i := 14) rfl) rfl) (in_t11 (List.mem_of_getElem? (i := 37) rfl) rfl) (in_t11 (List.mem_of_getElem? (i := 38) rfl) rfl) (in_t11 (List.mem_of_getElem? (i := 39) rfl) rfl) (by decide +kernel) (by decide +kernel) (by decide +kernel) (x_dk dn_0_2_ok 41 rfl))))
  (e_TokL
  (e_LokL (e_stL (er_pop (x_dk dn_0_2_ok 42 rfl))))
  (e_LokL (e_stL (er_goto (off := 1621) (tg := 2142) (x_dk dn_0_2_ok 43 rfl) (by decide))))))
  (e_TokL
  (e_LokL (e_stL (er_aload_n (i := 1) (x_dk dn_0_2_ok 44 rfl))))
  (e_TokL
  (e_LokL (e_stL (er_aload_n (i := 0) (x_dk dn_0_2_ok 45 rfl))))
  (e_LokL (e_stL (er_iload_n (i := 3) (x_dk dn_0_2_ok 46 rfl)))))))
  (e_TokL
  (e_TokL
  (e_LokL (e_stL (er_iconst (n := 1) (z := 1) (v := 1) (x_dk dn_0_2_ok 47 rfl) (by decide) (by decide))))
  (e_TokL
  (e_LokL (e_stL (er_iadd (x_dk dn_0_2_ok 48 rfl))))
  (e_LokL (Or.inr (Or.inr ⟨rfl, (x_dk dn_0_2_ok 49 rfl)⟩)))))
  (e_TokL
  (e_LokL (e_stL (er_aload_n (i := 0) (x_dk dn_0_2_ok 50 rfl))))
  (e_TokL
  (e_LokL (e_stL (er_iload_n (i := 3) (x_dk dn_0_2_ok 51 rfl))))
  (e_LokL (e_stL (er_iconst (n := 2) (z := 2) (v := 2) (x_dk dn_0_2_ok 52 rfl) (by decide) (by decide))))))))
  (e_TokL
  (e_TokL
  (e_TokL
  (e_LokL (e_stL (er_iadd (x_dk dn_0_2_ok 53 rfl))))
  (e_TokL
  (e_LokL (Or.inr (Or.inr ⟨rfl, (x_dk dn_0_2_ok 54 rfl)⟩)))
  (e_LokL (e_stL (er_aload_n (i := 0) (x_dk dn_0_2_ok 55 rfl))))))
  (e_TokL
  (e_LokL (e_stL (er_iload_n (i := 3) (x_dk dn_0_2_ok 56 rfl))))
  (e_TokL
  (e_LokL (e_stL (er_iconst (n := 3) (z := 3) (v := 3) (x_dk dn_0_2_ok 57 rfl) (by decide) (by decide))))
  (e_LokL (e_stL (er_iadd (x_dk dn_0_2_ok 58 rfl)))))))
  (e_TokL
  (e_TokL
  (e_LokL (Or.inr (Or.inr ⟨rfl, (x_dk dn_0_2_ok 59 rfl)⟩)))
  (e_TokL
  (e_LokL (e_caL (q' := n_196) rfl (xr_callV (q' := n_196) (ix := 41) (n := 3) (in_t4 (List.mem_of_getElem? (i := 205) rfl) rfl) good_w (in_t1 (List.mem_of_getElem? (i := 1) rfl) rfl) (in_t4 (List.mem_of_getElem? (i := 202) rfl) rfl) (in_t4 (List.mem_of_getElem? (i := 203) rfl) rfl) (in_t4 (List.mem_of_getElem? (i := 204) rfl) rfl) (by decide +kernel) (by decide +kernel) (by decide +kernel) (x_dk dn_0_2_ok 60 rfl))))
  (e_LokL (e_stL (er_pop (x_dk dn_0_2_ok 61 rfl))))))
  (e_TokL
  (e_LokL (e_stL (er_aload_n (i := 2) (x_dk dn_0_2_ok 62 rfl))))
  (e_TokL
  (e_LokL (e_stL (er_aload_n (i := 0) (x_dk dn_0_2_ok 63 rfl))))
  (e_LokL (e_stL (er_iload_n (i := 3) (x_dk dn_0_2_ok 64 rfl)))))))))
def te_0_265 (L : Nat) (xs : Nat → Int32) : Nat → eE := (e_T 558 (e_T 552 (e_T 549 (e_T 547 (e_L 547 (0, ei_push (0, 1) 548, 0, 0)) (e_T 548 (e_L 548 (0, ei_bin eF_add 549, 0, 0)) (e_L 549 (0, e_S (g_scd L xs 550), 0, 0)))) (e_T 550 (e_L 550 (0, ei_load 0 2 551, 0, 0)) (e_T 551 (e_L 551 (0, ei_load 3 0 552, 0, 0)) (e_L 552 (0, ei_push (0, 2) 553, 0, 0))))) (e_T 555 (e_T 553 (e_L 553 (0, ei_bin eF_add 554, 0, 0)) (e_T 554 (e_L 554 (0, e_S (g_scd L xs 555), 0, 0)) (e_L 555 (0, ei_load 0 2 556, 0, 0)))) (e_T 556 (e_L 556 (0, ei_load 3 0 557, 0, 0)) (e_T 557 (e_L 557 (0, ei_push (0, 3) 558, 0, 0)) (e_L 558 (0, ei_bin eF_add 559, 0, 0)))))) (e_T 568 (e_T 563 (e_T 559 (e_L 559 (0, e_S (g_scd L xs 560), 0, 0)) (e_T 560 (e_L 560 (2, e_nof, 280, 4)) (e_L 563 (0, ei_stk ef_pop 564, 0, 0)))) (e_T 564 (e_L 564 (0, ei_goto 2142, 0, 0)) (e_T 567 (e_L 567 (0, ei_load 1 2 568, 0, 0)) (e_L 568 (0, ei_load 0 2 569, 0, 0))))) (e_T 571 (e_T 569 (e_L 569 (0, ei_load 3 0 570, 0, 0)) (e_T 570 (e_L 570 (0, ei_push (0, 1) 571, 0, 0)) (e_L 571 (0, ei_bin eF_add 572, 0, 0)))) (e_T 573 (e_T 572 (e_L 572 (0, e_S (g_scd L xs 573), 0, 0)) (e_L 573 (0, ei_load 0 2 574, 0, 0))) (e_T 574 (e_L 574 (0, ei_load 3 0 575, 0, 0)) (e_L 575 (0, ei_push (0, 2) 576, 0, 0)))))))
set_option maxRecDepth 20000 in
set_option maxHeartbeats 4000000 in
theorem te_0_265_ok (L : Nat) (xs : Nat → Int32) : ∀ pc, e_EOl L xs pc (te_0_265 L xs pc) :=
  (e_TokL
  (e_TokL
  (e_TokL
  (e_TokL
  (e_LokL (e_stL (er_iconst (n := 1) (z := 1) (v := 1) (x_dk dn_0_2_ok 65 rfl) (by decide) (by decide))))
  (e_TokL
  (e_LokL (e_stL (er_iadd (x_dk dn_0_2_ok 66 rfl))))
  (e_LokL (Or.inr (Or.inr ⟨rfl, (x_dk dn_0_2_ok 67 rfl)⟩)))))
  (e_TokL
  (e_LokL (e_stL (er_aload_n (i := 0) (x_dk dn_0_2_ok 68 rfl))))
  (e_TokL
  (e_LokL (e_stL (er_iload_n (i := 3) (x_dk dn_0_2_ok 69 rfl))))
  (e_LokL (e_stL (er_iconst (n := 2) (z := 2) (v := 2) (x_dk dn_0_2_ok 70 rfl) (by decide) (by decide)))))))
  (e_TokL
  (e_TokL
  (e_LokL (e_stL (er_iadd (x_dk dn_0_2_ok 71 rfl))))
  (e_TokL
  (e_LokL (Or.inr (Or.inr ⟨rfl, (x_dk dn_0_2_ok 72 rfl)⟩)))
  (e_LokL (e_stL (er_aload_n (i := 0) (x_dk dn_0_2_ok 73 rfl))))))
  (e_TokL
  (e_LokL (e_stL (er_iload_n (i := 3) (x_dk dn_0_2_ok 74 rfl))))
  (e_TokL
  (e_LokL (e_stL (er_iconst (n := 3) (z := 3) (v := 3) (x_dk dn_0_2_ok 75 rfl) (by decide) (by decide))))
  (e_LokL (e_stL (er_iadd (x_dk dn_0_2_ok 76 rfl))))))))
  (e_TokL
  (e_TokL
  (e_TokL
  (e_LokL (Or.inr (Or.inr ⟨rfl, (x_dk dn_0_2_ok 77 rfl)⟩)))
  (e_TokL
  (e_LokL (e_caL (q' := n_280) rfl (xr_callV (q' := n_280) (ix := 45) (n := 3) (in_t11 (List.mem_of_getElem? (i := 32) rfl) rfl) good_w (in_t1 (List.mem_of_getElem? (i := 14) rfl) rfl) (in_t11 (List.mem_of_getElem? (i := 29) rfl) rfl) (in_t11 (List.mem_of_getElem? (i := 30) rfl) rfl) (in_t11 (List.mem_of_getElem? (i := 31) rfl) rfl) (by decide +kernel) (by decide +kernel) (by decide +kernel) (x_dk dn_0_2_ok 78 rfl))))
  (e_LokL (e_stL (er_pop (x_dk dn_0_2_ok 79 rfl))))))
  (e_TokL
  (e_LokL (e_stL (er_goto (off := 1578) (tg := 2142) (x_dk dn_0_2_ok 80 rfl) (by decide))))
  (e_TokL
  (e_LokL (e_stL (er_aload_n (i := 1) (x_dk dn_0_2_ok 81 rfl))))
  (e_LokL (e_stL (er_aload_n (i := 0) (x_dk dn_0_2_ok 82 rfl)))))))
  (e_TokL
  (e_TokL
  (e_LokL (e_stL (er_iload_n (i := 3) (x_dk dn_0_2_ok 83 rfl))))
  (e_TokL
  (e_LokL (e_stL (er_iconst (n := 1) (z := 1) (v := 1) (x_dk dn_0_2_ok 84 rfl) (by decide) (by decide))))
  (e_LokL (e_stL (er_iadd (x_dk dn_0_2_ok 85 rfl))))))
  (e_TokL
  (e_TokL
  (e_LokL (Or.inr (Or.inr ⟨rfl, (x_dk dn_0_2_ok 86 rfl)⟩)))
  (e_LokL (e_stL (er_aload_n (i := 0) (x_dk dn_0_2_ok 87 rfl)))))
  (e_TokL
  (e_LokL (e_stL (er_iload_n (i := 3) (x_dk dn_0_2_ok 88 rfl))))
  (e_LokL (e_stL (er_iconst (n := 2) (z := 2) (v := 2) (x_dk dn_0_2_ok 89 rfl) (by decide) (by decide)))))))))
def te_0_290 (L : Nat) (xs : Nat → Int32) : Nat → eE := (e_T 589 (e_T 581 (e_T 578 (e_T 576 (e_L 576 (0, ei_bin eF_add 577, 0, 0)) (e_T 577 (e_L 577 (0, e_S (g_scd L xs 578), 0, 0)) (e_L 578 (0, ei_load 0 2 579, 0, 0)))) (e_T 579 (e_L 579 (0, ei_load 3 0 580, 0, 0)) (e_T 580 (e_L 580 (0, ei_push (0, 3) 581, 0, 0)) (e_L 581 (0, ei_bin eF_add 582, 0, 0))))) (e_T 586 (e_T 582 (e_L 582 (0, e_S (g_scd L xs 583), 0, 0)) (e_T 583 (e_L 583 (2, e_nof, 197, 4)) (e_L 586 (0, ei_stk ef_pop 587, 0, 0)))) (e_T 587 (e_L 587 (0, ei_load 2 2 588, 0, 0)) (e_T 588 (e_L 588 (0, ei_load 0 2 589, 0, 0)) (e_L 589 (0, ei_load 3 0 590, 0, 0)))))) (e_T 595 (e_T 592 (e_T 590 (e_L 590 (0, ei_push (0, 1) 591, 0, 0)) (e_T 591 (e_L 591 (0, ei_bin eF_add 592, 0, 0)) (e_L 592 (0, e_S (g_scd L xs 593), 0, 0)))) (e_T 593 (e_L 593 (0, ei_load 0 2 594, 0, 0)) (e_T 594 (e_L 594 (0, ei_load 3 0 595, 0, 0)) (e_L 595 (0, ei_push (0, 2) 596, 0, 0))))) (e_T 598 (e_T 596 (e_L 596 (0, ei_bin eF_add 597, 0, 0)) (e_T 597 (e_L 597 (0, e_S (g_scd L xs 598), 0, 0)) (e_L 598 (0, ei_load 0 2 599, 0, 0)))) (e_T 599 (e_L 599 (0, ei_load 3 0 600, 0, 0)) (e_T 600 (e_L 600 (0, ei_push (0, 3) 601, 0, 0)) (e_L 601 (0, ei_bin eF_add 602, 0, 0)))))))
set_option maxRecDepth 20000 in
set_option maxHeartbeats 4000000 in
theorem te_0_290_ok (L : Nat) (xs : Nat → Int32) : ∀ pc, e_EOl L xs pc (te_0_290 L xs pc) :=
  (e_TokL
  (e_TokL
  (e_TokL
  (e_TokL
  (e_LokL (e_stL (er_iadd (x_dk dn_0_2_ok 90 rfl))))
  (e_TokL
  (e_LokL (Or.inr (Or.inr ⟨rfl, (x_dk dn_0_2_ok 91 rfl)⟩)))
  (e_LokL (e_stL (er_aload_n (i := 0) (x_dk dn_0_2_ok 92 rfl))))))
  (e_TokL
  (e_LokL (e_stL (er_iload_n (i := 3) (x_dk dn_0_2_ok 93 rfl))))
  (e_TokL
  (e_LokL (e_stL (er_iconst (n := 3) (z := 3) (v := 3) (x_dk dn_0_2_ok 94 rfl) (by decide) (by decide))))
  (e_LokL (e_stL (er_iadd (x_dk dn_0_2_ok 95 rfl)))))))
  (e_TokL
  (e_TokL
  (e_LokL (Or.inr (Or.inr ⟨rfl, (x_dk dn_0_2_ok 96 rfl)⟩)))
  (e_TokL
  (e_LokL (e_caL (q' := n_197) rfl (xr_callV (q' := n_197) (ix := 46) (n := 3) (in_t4 (List.mem_of_getElem? (i := 209) rfl) rfl) good_w (in_t1 (List.mem_of_getElem? (i := 1) rfl) rfl) (in_t4 (List.mem_of_getElem? (i := 206) rfl) rfl) (in_t4 (List.mem_of_getElem? (i := 207) rfl) rfl) (in_t4 (List.mem_of_getElem? (i := 208) rfl) rfl) (by decide +kernel) (by decide +kernel) (by decide +kernel) (x_dk dn_0_2_ok 97 rfl))))
  (e_LokL (e_stL (er_pop (x_dk dn_0_2_ok 98 rfl))))))
  (e_TokL
  (e_LokL (e_stL (er_aload_n (i := 2) (x_dk dn_0_2_ok 99 rfl))))
  (e_TokL
  (e_LokL (e_stL (er_aload_n (i := 0) (x_dk dn_0_3_ok 0 rfl))))
  (e_LokL (e_stL (er_iload_n (i := 3) (x_dk dn_0_3_ok 1 rfl))))))))
  (e_TokL
  (e_TokL
  (e_TokL
  (e_LokL (e_stL (er_iconst (n := 1) (z := 1) (v := 1) (x_dk dn_0_3_ok 2 rfl) (by decide) (by decide))))
  (e_TokL
  (e_LokL (e_stL (er_iadd (x_dk dn_0_3_ok 3 rfl))))
  (e_LokL (Or.inr (Or.inr ⟨rfl, (x_dk dn_0_3_ok 4 rfl)⟩)))))
  (e_TokL
  (e_LokL (e_stL (er_aload_n (i := 0) (x_dk dn_0_3_ok 5 rfl))))
  (e_TokL
  (e_LokL (e_stL (er_iload_n (i := 3) (x_dk dn_0_3_ok 6 rfl))))
  (e_LokL (e_stL (er_iconst (n := 2) (z := 2) (v := 2) (x_dk dn_0_3_ok 7 rfl) (by decide) (by decide)))))))
  (e_TokL
  (e_TokL
  (e_LokL (e_stL (er_iadd (x_dk dn_0_3_ok 8 rfl))))
  (e_TokL
  (e_LokL (Or.inr (Or.inr ⟨rfl, (x_dk dn_0_3_ok 9 rfl)⟩)))
  (e_LokL (e_stL (er_aload_n (i := 0) (x_dk dn_0_3_ok 10 rfl))))))
  (e_TokL
  (e_LokL (e_stL (er_iload_n (i := 3) (x_dk dn_0_3_ok 11 rfl))))
  (e_TokL
  (e_LokL (e_stL (er_iconst (n := 3) (z := 3) (v := 3) (x_dk dn_0_3_ok 12 rfl) (by decide) (by decide))))
  (e_LokL (e_stL (er_iadd (x_dk dn_0_3_ok 13 rfl)))))))))
def te_0_314 (L : Nat) (xs : Nat → Int32) : Nat → eE := (e_T 617 (e_T 611 (e_T 606 (e_T 602 (e_L 602 (0, e_S (g_scd L xs 603), 0, 0)) (e_T 603 (e_L 603 (2, e_nof, 283, 4)) (e_L 606 (0, ei_stk ef_pop 607, 0, 0)))) (e_T 607 (e_L 607 (0, ei_goto 2142, 0, 0)) (e_T 610 (e_L 610 (0, ei_load 1 2 611, 0, 0)) (e_L 611 (0, ei_load 0 2 612, 0, 0))))) (e_T 614 (e_T 612 (e_L 612 (0, ei_load 3 0 613, 0, 0)) (e_T 613 (e_L 613 (0, ei_push (0, 1) 614, 0, 0)) (e_L 614 (0, ei_bin eF_add 615, 0, 0)))) (e_T 615 (e_L 615 (0, e_S (g_scd L xs 616), 0, 0)) (e_T 616 (e_L 616 (0, ei_load 0 2 617, 0, 0)) (e_L 617 (0, ei_load 3 0 618, 0, 0)))))) (e_T 623 (e_T 620 (e_T 618 (e_L 618 (0, ei_push (0, 2) 619, 0, 0)) (e_T 619 (e_L 619 (0, ei_bin eF_add 620, 0, 0)) (e_L 620 (0, e_S (g_scd L xs 621), 0, 0)))) (e_T 621 (e_L 621 (0, ei_load 0 2 622, 0, 0)) (e_T 622 (e_L 622 (0, ei_load 3 0 623, 0, 0)) (e_L 623 (0, ei_push (0, 3) 624, 0, 0))))) (e_T 626 (e_T 624 (e_L 624 (0, ei_bin eF_add 625, 0, 0)) (e_T 625 (e_L 625 (0, e_S (g_scd L xs 626), 0, 0)) (e_L 626 (0, ei_load 0 2 627, 0, 0)))) (e_T 627 (e_L 627 (0, ei_load 3 0 628, 0, 0)) (e_T 628 (e_L 628 (0, ei_push (0, 4) 629, 0, 0)) (e_L 629 (0, ei_bin eF_add 630, 0, 0)))))))
set_option maxRecDepth 20000 in
set_option maxHeartbeats 4000000 in
theorem te_0_314_ok (L : Nat) (xs : Nat → Int32) : ∀ pc, e_EOl L xs pc (te_0_314 L xs pc) :=
  (e_TokL
  (e_TokL
  (e_TokL
  (e_TokL
  (e_LokL (Or.inr (Or.inr ⟨rfl, (x_dk dn_0_3_ok 14 rfl)⟩)))
  (e_TokL
  (e_LokL (e_caL (q' := n_283) rfl (xr_callV (q' := n_283) (ix := 49) (n := 3) (in_t11 (List.mem_of_getElem? (i := 45) rfl) rfl) good_w (in_t1 (List.mem_of_getElem? (i := 14) rfl) rfl) (in_t11 (List.mem_of_getElem? (i := 42) rfl) rfl) (in_t11 (List.mem_of_getElem? (i := 43) rfl) rfl) (in_t11 (List.mem_of_getElem? (i := 44) rfl) rfl) (by decide +kernel) (by decide +kernel) (by decide +kernel) (x_dk dn_0_3_ok 15 rfl))))
  (e_LokL (e_stL (er_pop (x_dk dn_0_3_ok 16 rfl))))))
  (e_TokL
  (e_LokL (e_stL (er_goto (off := 1535) (tg := 2142) (x_dk dn_0_3_ok 17 rfl) (by decide))))
  (e_TokL
  (e_LokL (e_stL (er_aload_n (i := 1) (x_dk dn_0_3_ok 18 rfl))))
  (e_LokL (e_stL (er_aload_n (i := 0) (x_dk dn_0_3_ok 19 rfl)))))))
  (e_TokL
  (e_TokL
  (e_LokL (e_stL (er_iload_n (i := 3) (x_dk dn_0_3_ok 20 rfl))))
  (e_TokL
  (e_LokL (e_stL (er_iconst (n := 1) (z := 1) (v := 1) (x_dk dn_0_3_ok 21 rfl) (by decide) (by decide))))
  (e_LokL (e_stL (er_iadd (x_dk dn_0_3_ok 22 rfl))))))
  (e_TokL
  (e_LokL (Or.inr (Or.inr ⟨rfl, (x_dk dn_0_3_ok 23 rfl)⟩)))
  (e_TokL
  (e_LokL (e_stL (er_aload_n (i := 0) (x_dk dn_0_3_ok 24 rfl))))
  (e_LokL (e_stL (er_iload_n (i := 3) (x_dk dn_0_3_ok 25 rfl))))))))
  (e_TokL
  (e_TokL
  (e_TokL
  (e_LokL (e_stL (er_iconst (n := 2) (z := 2) (v := 2) (x_dk dn_0_3_ok 26 rfl) (by decide) (by decide))))
  (e_TokL
  (e_LokL (e_stL (er_iadd (x_dk dn_0_3_ok 27 rfl))))
  (e_LokL (Or.inr (Or.inr ⟨rfl, (x_dk dn_0_3_ok 28 rfl)⟩)))))
  (e_TokL
  (e_LokL (e_stL (er_aload_n (i := 0) (x_dk dn_0_3_ok 29 rfl))))
  (e_TokL
  (e_LokL (e_stL (er_iload_n (i := 3) (x_dk dn_0_3_ok 30 rfl))))
  (e_LokL (e_stL (er_iconst (n := 3) (z := 3) (v := 3) (x_dk dn_0_3_ok 31 rfl) (by decide) (by decide)))))))
  (e_TokL
  (e_TokL
  (e_LokL (e_stL (er_iadd (x_dk dn_0_3_ok 32 rfl))))
  (e_TokL
  (e_LokL (Or.inr (Or.inr ⟨rfl, (x_dk dn_0_3_ok 33 rfl)⟩)))
  (e_LokL (e_stL (er_aload_n (i := 0) (x_dk dn_0_3_ok 34 rfl))))))
  (e_TokL
  (e_LokL (e_stL (er_iload_n (i := 3) (x_dk dn_0_3_ok 35 rfl))))
  (e_TokL
  (e_LokL (e_stL (er_iconst (n := 4) (z := 4) (v := 4) (x_dk dn_0_3_ok 36 rfl) (by decide) (by decide))))
  (e_LokL (e_stL (er_iadd (x_dk dn_0_3_ok 37 rfl)))))))))
def te_0_338 (L : Nat) (xs : Nat → Int32) : Nat → eE := (e_T 643 (e_T 637 (e_T 634 (e_T 630 (e_L 630 (0, e_S (g_scd L xs 631), 0, 0)) (e_T 631 (e_L 631 (2, e_nof, 198, 5)) (e_L 634 (0, ei_stk ef_pop 635, 0, 0)))) (e_T 635 (e_L 635 (0, ei_load 2 2 636, 0, 0)) (e_T 636 (e_L 636 (0, ei_load 0 2 637, 0, 0)) (e_L 637 (0, ei_load 3 0 638, 0, 0))))) (e_T 640 (e_T 638 (e_L 638 (0, ei_push (0, 1) 639, 0, 0)) (e_T 639 (e_L 639 (0, ei_bin eF_add 640, 0, 0)) (e_L 640 (0, e_S (g_scd L xs 641), 0, 0)))) (e_T 641 (e_L 641 (0, ei_load 0 2 642, 0, 0)) (e_T 642 (e_L 642 (0, ei_load 3 0 643, 0, 0)) (e_L 643 (0, ei_push (0, 2) 644, 0, 0)))))) (e_T 649 (e_T 646 (e_T 644 (e_L 644 (0, ei_bin eF_add 645, 0, 0)) (e_T 645 (e_L 645 (0, e_S (g_scd L xs 646), 0, 0)) (e_L 646 (0, ei_load 0 2 647, 0, 0)))) (e_T 647 (e_L 647 (0, ei_load 3 0 648, 0, 0)) (e_T 648 (e_L 648 (0, ei_push (0, 3) 649, 0, 0)) (e_L 649 (0, ei_bin eF_add 650, 0, 0))))) (e_T 652 (e_T 650 (e_L 650 (0, e_S (g_scd L xs 651), 0, 0)) (e_T 651 (e_L 651 (0, ei_load 0 2 652, 0, 0)) (e_L 652 (0, ei_load 3 0 653, 0, 0)))) (e_T 653 (e_L 653 (0, ei_push (0, 4) 654, 0, 0)) (e_T 654 (e_L 654 (0, ei_bin eF_add 655, 0, 0)) (e_L 655 (0, e_S (g_scd L xs 656), 0, 0)))))))
set_option maxRecDepth 20000 in
set_option maxHeartbeats 4000000 in
theorem te_0_338_ok (L : Nat) (xs : Nat → Int32) : ∀ pc, e_EOl L xs pc (te_0_338 L xs pc) :=
  (e_TokL
  (e_TokL
  (e_TokL
  (e_TokL
  (e_LokL (Or.inr (Or.inr ⟨rfl, (x_dk dn_0_3_ok 38 rfl)⟩)))
  (e_TokL
  (e_LokL (e_caL (q' := n_198) rfl (xr_callV (q' := n_198) (ix := 50) (n := 4) (in_t4 (List.mem_of_getElem? (i := 220) rfl) rfl) good_w (in_t1 (List.mem_of_getElem? (i := 1) rfl) rfl) (in_t4 (List.mem_of_getElem? (i := 217) rfl) rfl) (in_t4 (List.mem_of_getElem? (i := 218) rfl) rfl) (in_t4 (List.mem_of_getElem? (i := 219) rfl) rfl) (by decide +kernel) (by decide +kernel) (by decide +kernel) (x_dk dn_0_3_ok 39 rfl))))
  (e_LokL (e_stL (er_pop (x_dk dn_0_3_ok 40 rfl))))))
  (e_TokL
  (e_LokL (e_stL (er_aload_n (i := 2) (x_dk dn_0_3_ok 41 rfl))))
  (e_TokL
  (e_LokL (e_stL (er_aload_n (i := 0) (x_dk dn_0_3_ok 42 rfl))))
  (e_LokL (e_stL (er_iload_n (i := 3) (x_dk dn_0_3_ok 43 rfl)))))))
  (e_TokL
  (e_TokL
  (e_LokL (e_stL (er_iconst (n := 1) (z := 1) (v := 1) (x_dk dn_0_3_ok 44 rfl) (by decide) (by decide))))
  (e_TokL
  (e_LokL (e_stL (er_iadd (x_dk dn_0_3_ok 45 rfl))))
  (e_LokL (Or.inr (Or.inr ⟨rfl, (x_dk dn_0_3_ok 46 rfl)⟩)))))
  (e_TokL
  (e_LokL (e_stL (er_aload_n (i := 0) (x_dk dn_0_3_ok 47 rfl))))
  (e_TokL
  (e_LokL (e_stL (er_iload_n (i := 3) (x_dk dn_0_3_ok 48 rfl))))
  (e_LokL (e_stL (er_iconst (n := 2) (z := 2) (v := 2) (x_dk dn_0_3_ok 49 rfl) (by decide) (by decide))))))))
  (e_TokL
  (e_TokL
  (e_TokL
  (e_LokL (e_stL (er_iadd (x_dk dn_0_3_ok 50 rfl))))
  (e_TokL
  (e_LokL (Or.inr (Or.inr ⟨rfl, (x_dk dn_0_3_ok 51 rfl)⟩)))
  (e_LokL (e_stL (er_aload_n (i := 0) (x_dk dn_0_3_ok 52 rfl))))))
  (e_TokL
  (e_LokL (e_stL (er_iload_n (i := 3) (x_dk dn_0_3_ok 53 rfl))))
  (e_TokL
  (e_LokL (e_stL (er_iconst (n := 3) (z := 3) (v := 3) (x_dk dn_0_3_ok 54 rfl) (by decide) (by decide))))
  (e_LokL (e_stL (er_iadd (x_dk dn_0_3_ok 55 rfl)))))))
  (e_TokL
  (e_TokL
  (e_LokL (Or.inr (Or.inr ⟨rfl, (x_dk dn_0_3_ok 56 rfl)⟩)))
  (e_TokL
  (e_LokL (e_stL (er_aload_n (i := 0) (x_dk dn_0_3_ok 57 rfl))))
  (e_LokL (e_stL (er_iload_n (i := 3) (x_dk dn_0_3_ok 58 rfl))))))
  (e_TokL
  (e_LokL (e_stL (er_iconst (n := 4) (z := 4) (v := 4) (x_dk dn_0_3_ok 59 rfl) (by decide) (by decide))))
  (e_TokL
  (e_LokL (e_stL (er_iadd (x_dk dn_0_3_ok 60 rfl))))
  (e_LokL (Or.inr (Or.inr ⟨rfl, (x_dk dn_0_3_ok 61 rfl)⟩))))))))
def te_0_362 (L : Nat) (xs : Nat → Int32) : Nat → eE := (e_T 671 (e_T 665 (e_T 660 (e_T 656 (e_L 656 (2, e_nof, 284, 5)) (e_T 659 (e_L 659 (0, ei_stk ef_pop 660, 0, 0)) (e_L 660 (0, ei_goto 2142, 0, 0)))) (e_T 663 (e_L 663 (0, ei_load 1 2 664, 0, 0)) (e_T 664 (e_L 664 (0, ei_load 0 2 665, 0, 0)) (e_L 665 (0, ei_load 3 0 666, 0, 0))))) (e_T 668 (e_T 666 (e_L 666 (0, ei_push (0, 1) 667, 0, 0)) (e_T 667 (e_L 667 (0, ei_bin eF_add 668, 0, 0)) (e_L 668 (0, e_S (g_scd L xs 669), 0, 0)))) (e_T 669 (e_L 669 (0, ei_load 0 2 670, 0, 0)) (e_T 670 (e_L 670 (0, ei_load 3 0 671, 0, 0)) (e_L 671 (0, ei_push (0, 2) 672, 0, 0)))))) (e_T 677 (e_T 674 (e_T 672 (e_L 672 (0, ei_bin eF_add 673, 0, 0)) (e_T 673 (e_L 673 (0, e_S (g_scd L xs 674), 0, 0)) (e_L 674 (0, ei_load 0 2 675, 0, 0)))) (e_T 675 (e_L 675 (0, ei_load 3 0 676, 0, 0)) (e_T 676 (e_L 676 (0, ei_push (0, 3) 677, 0, 0)) (e_L 677 (0, ei_bin eF_add 678, 0, 0))))) (e_T 682 (e_T 678 (e_L 678 (0, e_S (g_scd L xs 679), 0, 0)) (e_T 679 (e_L 679 (2, e_nof, 199, 4)) (e_L 682 (0, ei_load 2 2 683, 0, 0)))) (e_T 684 (e_T 683 (e_L 683 (0, ei_load 0 2 684, 0, 0)) (e_L 684 (0, ei_load 3 0 685, 0, 0))) (e_T 685 (e_L 685 (0, ei_push (0, 1) 686, 0, 0)) (e_L 686 (0, ei_bin eF_add 687, 0, 0)))))))
set_option maxRecDepth 20000 in
set_option maxHeartbeats 4000000 in
theorem te_0_362_ok (L : Nat) (xs : Nat → Int32) : ∀ pc, e_EOl L xs pc (te_0_362 L xs pc) :=
  (e_TokL
  (e_TokL
  (e_TokL
  (e_TokL
  (e_LokL (e_caL (q' := n_284) rfl (xr_callV (q' := n_284) (ix := 53) (n := 4) (in_t11 (List.mem_of_getElem? (i := 58) rfl) rfl) good_w (in_t1 (List.mem_of_getElem? (i := 14) rfl) rfl) (in_t11 (List.mem_of_getElem? (i := 55) rfl) rfl) (in_t11 (List.mem_of_getElem? (i := 56) rfl) rfl) (in_t11 (List.mem_of_getElem? (i := 57) rfl) rfl) (by decide +kernel) (by decide +kernel) (by decide +kernel) (x_dk dn_0_3_ok 62 rfl))))
  (e_TokL
  (e_LokL (e_stL (er_pop (x_dk dn_0_3_ok 63 rfl))))
  (e_LokL (e_stL (er_goto (off := 1482) (tg := 2142) (x_dk dn_0_3_ok 64 rfl) (by decide))))))
  (e_TokL
  (e_LokL (e_stL (er_aload_n (i := 1) (x_dk dn_0_3_ok 65 rfl))))
  (e_TokL
  (e_LokL (e_stL (er_aload_n (i := 0) (x_dk dn_0_3_ok 66 rfl))))
  (e_LokL (e_stL (er_iload_n (i := 3) (x_dk dn_0_3_ok 67 rfl)))))))
  (e_TokL
  (e_TokL
  (e_LokL (e_stL (er_iconst (n := 1) (z := 1) (v := 1) (x_dk dn_0_3_ok 68 rfl) (by decide) (by decide))))
  (e_TokL
  (e_LokL (e_stL (er_iadd (x_dk dn_0_3_ok 69 rfl))))
  (e_LokL (Or.inr (Or.inr ⟨rfl, (x_dk dn_0_3_ok 70 rfl)⟩)))))
  (e_TokL
  (e_LokL (e_stL (er_aload_n (i := 0) (x_dk dn_0_3_ok 71 rfl))))
  (e_TokL
  (e_LokL (e_stL (er_iload_n (i := 3) (x_dk dn_0_3_ok 72 rfl))))
  (e_LokL (e_stL (er_iconst (n := 2) (z := 2) (v := 2) (x_dk dn_0_3_ok 73 rfl) (by decide) (by decide))))))))
  (e_TokL
  (e_TokL
  (e_TokL
  (e_LokL (e_stL (er_iadd (x_dk dn_0_3_ok 74 rfl))))
  (e_TokL
  (e_LokL (Or.inr (Or.inr ⟨rfl, (x_dk dn_0_3_ok 75 rfl)⟩)))
  (e_LokL (e_stL (er_aload_n (i := 0) (x_dk dn_0_3_ok 76 rfl))))))
  (e_TokL
  (e_LokL (e_stL (er_iload_n (i := 3) (x_dk dn_0_3_ok 77 rfl))))
  (e_TokL
  (e_LokL (e_stL (er_iconst (n := 3) (z := 3) (v := 3) (x_dk dn_0_3_ok 78 rfl) (by decide) (by decide))))
  (e_LokL (e_stL (er_iadd (x_dk dn_0_3_ok 79 rfl)))))))
  (e_TokL
  (e_TokL
  (e_LokL (Or.inr (Or.inr ⟨rfl, (x_dk dn_0_3_ok 80 rfl)⟩)))
  (e_TokL
  (e_LokL (e_caL (q' := n_199) rfl (xr_callV (q' := n_199) (ix := 54) (n := 3) (in_t4 (List.mem_of_getElem? (i := 227) rfl) rfl) good_w (in_t1 (List.mem_of_getElem? (i := 1) rfl) rfl) (in_t4 (List.mem_of_getElem? (i := 224) rfl) rfl) (in_t4 (List.mem_of_getElem? (i := 225) rfl) rfl) (in_t4 (List.mem_of_getElem? (i := 226) rfl) rfl) (by decide +kernel) (by decide +kernel) (by decide +kernel) (x_dk dn_0_3_ok 81 rfl))))
  (e_LokL (e_stL (er_aload_n (i := 2) (x_dk dn_0_3_ok 82 rfl))))))
  (e_TokL
  (e_TokL
  (e_LokL (e_stL (er_aload_n (i := 0) (x_dk dn_0_3_ok 83 rfl))))
  (e_LokL (e_stL (er_iload_n (i := 3) (x_dk dn_0_3_ok 84 rfl)))))
  (e_TokL
  (e_LokL (e_stL (er_iconst (n := 1) (z := 1) (v := 1) (x_dk dn_0_3_ok 85 rfl) (by decide) (by decide))))
  (e_LokL (e_stL (er_iadd (x_dk dn_0_3_ok 86 rfl)))))))))
def te_0_387 (L : Nat) (xs : Nat → Int32) : Nat → eE := (e_T 698 (e_T 692 (e_T 689 (e_T 687 (e_L 687 (0, e_S (g_scd L xs 688), 0, 0)) (e_T 688 (e_L 688 (0, ei_load 0 2 689, 0, 0)) (e_L 689 (0, ei_load 3 0 690, 0, 0)))) (e_T 690 (e_L 690 (0, ei_push (0, 2) 691, 0, 0)) (e_T 691 (e_L 691 (0, ei_bin eF_add 692, 0, 0)) (e_L 692 (0, e_S (g_scd L xs 693), 0, 0))))) (e_T 695 (e_T 693 (e_L 693 (0, ei_load 0 2 694, 0, 0)) (e_T 694 (e_L 694 (0, ei_load 3 0 695, 0, 0)) (e_L 695 (0, ei_push (0, 3) 696, 0, 0)))) (e_T 696 (e_L 696 (0, ei_bin eF_add 697, 0, 0)) (e_T 697 (e_L 697 (0, e_S (g_scd L xs 698), 0, 0)) (e_L 698 (2, e_nof, 285, 4)))))) (e_T 708 (e_T 705 (e_T 701 (e_L 701 (0, ei_if2 0 2142 704, 0, 0)) (e_T 704 (e_L 704 (0, ei_push (0, 0) 705, 0, 0)) (e_L 705 (1, e_nof, 4, 0)))) (e_T 706 (e_L 706 (0, ei_load 1 2 707, 0, 0)) (e_T 707 (e_L 707 (0, ei_load 0 2 708, 0, 0)) (e_L 708 (0, ei_load 3 0 709, 0, 0))))) (e_T 711 (e_T 709 (e_L 709 (0, ei_push (0, 1) 710, 0, 0)) (e_T 710 (e_L 710 (0, ei_bin eF_add 711, 0, 0)) (e_L 711 (0, e_S (g_scd L xs 712), 0, 0)))) (e_T 712 (e_L 712 (0, ei_load 0 2 713, 0, 0)) (e_T 713 (e_L 713 (0, ei_load 3 0 714, 0, 0)) (e_L 714 (0, ei_push (0, 2) 715, 0, 0)))))))
set_option maxRecDepth 20000 in
set_option maxHeartbeats 4000000 in
theorem te_0_387_ok (L : Nat) (xs : Nat → Int32) : ∀ pc, e_EOl L xs pc (te_0_387 L xs pc) :=
  (e_TokL
  (e_TokL
  (e_TokL
  (e_TokL
  (e_LokL (Or.inr (Or.inr ⟨rfl, (x_dk dn_0_3_ok 87 rfl)⟩)))
  (e_TokL
  (e_LokL (e_stL (er_aload_n (i := 0) (x_dk dn_0_3_ok 88 rfl))))
  (e_LokL (e_stL (er_iload_n (i := 3) (x_dk dn_0_3_ok 89 rfl))))))
  (e_TokL
  (e_LokL (e_stL (er_iconst (n := 2) (z := 2) (v := 2) (x_dk dn_0_3_ok 90 rfl) (by decide) (by decide))))
  (e_TokL
  (e_LokL (e_stL (er_iadd (x_dk dn_0_3_ok 91 rfl))))
  (e_LokL (Or.inr (Or.inr ⟨rfl, (x_dk dn_0_3_ok 92 rfl)⟩))))))
  (e_TokL
  (e_TokL
  (e_LokL (e_stL (er_aload_n (i := 0) (x_dk dn_0_3_ok 93 rfl))))
  (e_TokL
  (e_LokL (e_stL (er_iload_n (i := 3) (x_dk dn_0_3_ok 94 rfl))))
  (e_LokL (e_stL (er_iconst (n := 3) (z := 3) (v := 3) (x_dk dn_0_3_ok 95 rfl) (by decide) (by decide))))))
  (e_TokL
  (e_LokL (e_stL (er_iadd (x_dk dn_0_3_ok 96 rfl))))
  (e_TokL
  (e_LokL (Or.inr (Or.inr ⟨rfl, (x_dk dn_0_3_ok 97 rfl)⟩)))
  (e_LokL (e_caL (q' := n_285) rfl (xr_callV (q' := n_285) (ix := 57) (n := 3) (in_t11 (List.mem_of_getElem? (i := 65) rfl) rfl) good_w (in_t1 (List.mem_of_getElem? (i := 14) rfl) rfl) (in_t11 (List.mem_of_getElem? (i := 62) rfl) rfl) (in_t11 (List.mem_of_getElem? (i := 63) rfl) rfl) (in_t11 (List.mem_of_getElem? (i := 64) rfl) rfl) (by decide +kernel) (by decide +kernel) (by decide +kernel) (x_dk dn_0_3_ok 98 rfl))))))))
  (e_TokL
  (e_TokL
  (e_TokL
  (e_LokL (e_stL (er_icmpeq (off := 1441) (tg := 2142) (x_dk dn_0_3_ok 99 rfl) (by decide))))
  (e_TokL
  (e_LokL (e_stL (er_iconst (n := 0) (z := 0) (v := 0) (x_dk dn_0_4_ok 0 rfl) (by decide) (by decide))))
  (e_LokL (show x_Rt (xm_b n_0) (xm_r n_0) 705 4 from ⟨(x_dk dn_0_4_ok 1 rfl), rfl⟩))))
  (e_TokL
  (e_LokL (e_stL (er_aload_n (i := 1) (x_dk dn_0_4_ok 2 rfl))))
  (e_TokL
  (e_LokL (e_stL (er_aload_n (i := 0) (x_dk dn_0_4_ok 3 rfl))))
  (e_LokL (e_stL (er_iload_n (i := 3) (x_dk dn_0_4_ok 4 rfl)))))))
  (e_TokL
  (e_TokL
  (e_LokL (e_stL (er_iconst (n := 1) (z := 1) (v := 1) (x_dk dn_0_4_ok 5 rfl) (by decide) (by decide))))
  (e_TokL
  (e_LokL (e_stL (er_iadd (x_dk dn_0_4_ok 6 rfl))))
  (e_LokL (Or.inr (Or.inr ⟨rfl, (x_dk dn_0_4_ok 7 rfl)⟩)))))
  (e_TokL
  (e_LokL (e_stL (er_aload_n (i := 0) (x_dk dn_0_4_ok 8 rfl))))
  (e_TokL
  (e_LokL (e_stL (er_iload_n (i := 3) (x_dk dn_0_4_ok 9 rfl))))
  (e_LokL (e_stL (er_iconst (n := 2) (z := 2) (v := 2) (x_dk dn_0_4_ok 10 rfl) (by decide) (by decide)))))))))
def te_0_411 (L : Nat) (xs : Nat → Int32) : Nat → eE := (e_T 726 (e_T 720 (e_T 717 (e_T 715 (e_L 715 (0, ei_bin eF_add 716, 0, 0)) (e_T 716 (e_L 716 (0, e_S (g_scd L xs 717), 0, 0)) (e_L 717 (0, ei_load 0 2 718, 0, 0)))) (e_T 718 (e_L 718 (0, ei_load 3 0 719, 0, 0)) (e_T 719 (e_L 719 (0, ei_push (0, 3) 720, 0, 0)) (e_L 720 (0, ei_bin eF_add 721, 0, 0))))) (e_T 723 (e_T 721 (e_L 721 (0, e_S (g_scd L xs 722), 0, 0)) (e_T 722 (e_L 722 (0, ei_load 0 2 723, 0, 0)) (e_L 723 (0, ei_load 3 0 724, 0, 0)))) (e_T 724 (e_L 724 (0, ei_push (0, 4) 725, 0, 0)) (e_T 725 (e_L 725 (0, ei_bin eF_add 726, 0, 0)) (e_L 726 (0, e_S (g_scd L xs 727), 0, 0)))))) (e_T 732 (e_T 729 (e_T 727 (e_L 727 (0, ei_load 0 2 728, 0, 0)) (e_T 728 (e_L 728 (0, ei_load 3 0 729, 0, 0)) (e_L 729 (0, ei_push (0, 5) 730, 0, 0)))) (e_T 730 (e_L 730 (0, ei_bin eF_add 731, 0, 0)) (e_T 731 (e_L 731 (0, e_S (g_scd L xs 732), 0, 0)) (e_L 732 (2, e_nof, 200, 6))))) (e_T 737 (e_T 735 (e_L 735 (0, ei_stk ef_pop 736, 0, 0)) (e_T 736 (e_L 736 (0, ei_load 2 2 737, 0, 0)) (e_L 737 (0, ei_load 0 2 738, 0, 0)))) (e_T 738 (e_L 738 (0, ei_load 3 0 739, 0, 0)) (e_T 739 (e_L 739 (0, ei_push (0, 1) 740, 0, 0)) (e_L 740 (0, ei_bin eF_add 741, 0, 0)))))))
set_option maxRecDepth 20000 in
set_option maxHeartbeats 4000000 in
theorem te_0_411_ok (L : Nat) (xs : Nat → Int32) : ∀ pc, e_EOl L xs pc (te_0_411 L xs pc) :=
  (e_TokL
  (e_TokL
  (e_TokL
  (e_TokL
  (e_LokL (e_stL (er_iadd (x_dk dn_0_4_ok 11 rfl))))
  (e_TokL
  (e_LokL (Or.inr (Or.inr ⟨rfl, (x_dk dn_0_4_ok 12 rfl)⟩)))
  (e_LokL (e_stL (er_aload_n (i := 0) (x_dk dn_0_4_ok 13 rfl))))))
  (e_TokL
  (e_LokL (e_stL (er_iload_n (i := 3) (x_dk dn_0_4_ok 14 rfl))))
  (e_TokL
  (e_LokL (e_stL (er_iconst (n := 3) (z := 3) (v := 3) (x_dk dn_0_4_ok 15 rfl) (by decide) (by decide))))
  (e_LokL (e_stL (er_iadd (x_dk dn_0_4_ok 16 rfl)))))))
  (e_TokL
  (e_TokL
  (e_LokL (Or.inr (Or.inr ⟨rfl, (x_dk dn_0_4_ok 17 rfl)⟩)))
  (e_TokL
  (e_LokL (e_stL (er_aload_n (i := 0) (x_dk dn_0_4_ok 18 rfl))))
  (e_LokL (e_stL (er_iload_n (i := 3) (x_dk dn_0_4_ok 19 rfl))))))
  (e_TokL
  (e_LokL (e_stL (er_iconst (n := 4) (z := 4) (v := 4) (x_dk dn_0_4_ok 20 rfl) (by decide) (by decide))))
  (e_TokL
  (e_LokL (e_stL (er_iadd (x_dk dn_0_4_ok 21 rfl))))
  (e_LokL (Or.inr (Or.inr ⟨rfl, (x_dk dn_0_4_ok 22 rfl)⟩)))))))
  (e_TokL
  (e_TokL
  (e_TokL
  (e_LokL (e_stL (er_aload_n (i := 0) (x_dk dn_0_4_ok 23 rfl))))
  (e_TokL
  (e_LokL (e_stL (er_iload_n (i := 3) (x_dk dn_0_4_ok 24 rfl))))
  (e_LokL (e_stL (er_iconst (n := 5) (z := 5) (v := 5) (x_dk dn_0_4_ok 25 rfl) (by decide) (by decide))))))
  (e_TokL
  (e_LokL (e_stL (er_iadd (x_dk dn_0_4_ok 26 rfl))))
  (e_TokL
  (e_LokL (Or.inr (Or.inr ⟨rfl, (x_dk dn_0_4_ok 27 rfl)⟩)))
  (e_LokL (e_caL (q' := n_200) rfl (xr_callV (q' := n_200) (ix := 58) (n := 5) (in_t4 (List.mem_of_getElem? (i := 235) rfl) rfl) good_w (in_t1 (List.mem_of_getElem? (i := 1) rfl) rfl) (in_t4 (List.mem_of_getElem? (i := 232) rfl) rfl) (in_t4 (List.mem_of_getElem? (i := 233) rfl) rfl) (in_t4 (List.mem_of_getElem? (i := 234) rfl) rfl) (by decide +kernel) (by decide +kernel) (by decide +kernel) (x_dk dn_0_4_ok 28 rfl)))))))
  (e_TokL
  (e_TokL
  (e_LokL (e_stL (er_pop (x_dk dn_0_4_ok 29 rfl))))
  (e_TokL
  (e_LokL (e_stL (er_aload_n (i := 2) (x_dk dn_0_4_ok 30 rfl))))
  (e_LokL (e_stL (er_aload_n (i := 0) (x_dk dn_0_4_ok 31 rfl))))))
  (e_TokL
  (e_LokL (e_stL (er_iload_n (i := 3) (x_dk dn_0_4_ok 32 rfl))))
  (e_TokL
  (e_LokL (e_stL (er_iconst (n := 1) (z := 1) (v := 1) (x_dk dn_0_4_ok 33 rfl) (by decide) (by decide))))
  (e_LokL (e_stL (er_iadd (x_dk dn_0_4_ok 34 rfl)))))))))
def te_0_435 (L : Nat) (xs : Nat → Int32) : Nat → eE := (e_T 752 (e_T 746 (e_T 743 (e_T 741 (e_L 741 (0, e_S (g_scd L xs 742), 0, 0)) (e_T 742 (e_L 742 (0, ei_load 0 2 743, 0, 0)) (e_L 743 (0, ei_load 3 0 744, 0, 0)))) (e_T 744 (e_L 744 (0, ei_push (0, 2) 745, 0, 0)) (e_T 745 (e_L 745 (0, ei_bin eF_add 746, 0, 0)) (e_L 746 (0, e_S (g_scd L xs 747), 0, 0))))) (e_T 749 (e_T 747 (e_L 747 (0, ei_load 0 2 748, 0, 0)) (e_T 748 (e_L 748 (0, ei_load 3 0 749, 0, 0)) (e_L 749 (0, ei_push (0, 3) 750, 0, 0)))) (e_T 750 (e_L 750 (0, ei_bin eF_add 751, 0, 0)) (e_T 751 (e_L 751 (0, e_S (g_scd L xs 752), 0, 0)) (e_L 752 (0, ei_load 0 2 753, 0, 0)))))) (e_T 758 (e_T 755 (e_T 753 (e_L 753 (0, ei_load 3 0 754, 0, 0)) (e_T 754 (e_L 754 (0, ei_push (0, 4) 755, 0, 0)) (e_L 755 (0, ei_bin eF_add 756, 0, 0)))) (e_T 756 (e_L 756 (0, e_S (g_scd L xs 757), 0, 0)) (e_T 757 (e_L 757 (0, ei_load 0 2 758, 0, 0)) (e_L 758 (0, ei_load 3 0 759, 0, 0))))) (e_T 761 (e_T 759 (e_L 759 (0, ei_push (0, 5) 760, 0, 0)) (e_T 760 (e_L 760 (0, ei_bin eF_add 761, 0, 0)) (e_L 761 (0, e_S (g_scd L xs 762), 0, 0)))) (e_T 762 (e_L 762 (2, e_nof, 286, 6)) (e_T 765 (e_L 765 (0, ei_stk ef_pop 766, 0, 0)) (e_L 766 (0, ei_goto 2142, 0, 0)))))))
set_option maxRecDepth 20000 in
set_option maxHeartbeats 4000000 in
theorem te_0_435_ok (L : Nat) (xs : Nat → Int32) : ∀ pc, e_EOl L xs pc (te_0_435 L xs pc) :=
  (e_TokL
  (e_TokL
  (e_TokL
  (e_TokL
  (e_LokL (Or.inr (Or.inr ⟨rfl, (x_dk dn_0_4_ok 35 rfl)⟩)))
  (e_TokL
  (e_LokL (e_stL (er_aload_n (i := 0) (x_dk dn_0_4_ok 36 rfl))))
  (e_LokL (e_stL (er_iload_n (i := 3) (x_dk dn_0_4_ok 37 rfl))))))
  (e_TokL
  (e_LokL (e_stL (er_iconst (n := 2) (z := 2) (v := 2) (x_dk dn_0_4_ok 38 rfl) (by decide) (by decide))))
  (e_TokL
  (e_LokL (e_stL (er_iadd (x_dk dn_0_4_ok 39 rfl))))
  (e_LokL (Or.inr (Or.inr ⟨rfl, (x_dk dn_0_4_ok 40 rfl)⟩))))))
  (e_TokL
  (e_TokL
  (e_LokL (e_stL (er_aload_n (i := 0) (x_dk dn_0_4_ok 41 rfl))))
  (e_TokL
  (e_LokL (e_stL (er_iload_n (i := 3) (x_dk dn_0_4_ok 42 rfl))))
  (e_LokL (e_stL (er_iconst (n := 3) (z := 3) (v := 3) (x_dk dn_0_4_ok 43 rfl) (by decide) (by decide))))))
  (e_TokL
  (e_LokL (e_stL (er_iadd (x_dk dn_0_4_ok 44 rfl))))
  (e_TokL
  (e_LokL (Or.inr (Or.inr ⟨rfl, (x_dk dn_0_4_ok 45 rfl)⟩)))
  (e_LokL (e_stL (er_aload_n (i := 0) (x_dk dn_0_4_ok 46 rfl))))))))
  (e_TokL
  (e_TokL
  (e_TokL
  (e_LokL (e_stL (er_iload_n (i := 3) (x_dk dn_0_4_ok 47 rfl))))
  (e_TokL
  (e_LokL (e_stL (er_iconst (n := 4) (z := 4) (v := 4) (x_dk dn_0_4_ok 48 rfl) (by decide) (by decide))))
  (e_LokL (e_stL (er_iadd (x_dk dn_0_4_ok 49 rfl))))))
  (e_TokL
  (e_LokL (Or.inr (Or.inr ⟨rfl, (x_dk dn_0_4_ok 50 rfl)⟩)))
  (e_TokL
  (e_LokL (e_stL (er_aload_n (i := 0) (x_dk dn_0_4_ok 51 rfl))))
  (e_LokL (e_stL (er_iload_n (i := 3) (x_dk dn_0_4_ok 52 rfl)))))))
  (e_TokL
  (e_TokL
  (e_LokL (e_stL (er_iconst (n := 5) (z := 5) (v := 5) (x_dk dn_0_4_ok 53 rfl) (by decide) (by decide))))
  (e_TokL
  (e_LokL (e_stL (er_iadd (x_dk dn_0_4_ok 54 rfl))))
  (e_LokL (Or.inr (Or.inr ⟨rfl, (x_dk dn_0_4_ok 55 rfl)⟩)))))
  (e_TokL
  (e_LokL (e_caL (q' := n_286) rfl (xr_callV (q' := n_286) (ix := 61) (n := 5) (in_t11 (List.mem_of_getElem? (i := 70) rfl) rfl) good_w (in_t1 (List.mem_of_getElem? (i := 14) rfl) rfl) (in_t11 (List.mem_of_getElem? (i := 67) rfl) rfl) (in_t11 (List.mem_of_getElem? (i := 68) rfl) rfl) (in_t11 (List.mem_of_getElem? (i := 69) rfl) rfl) (by decide +kernel) (by decide +kernel) (by decide +kernel) (x_dk dn_0_4_ok 56 rfl))))
  (e_TokL
  (e_LokL (e_stL (er_pop (x_dk dn_0_4_ok 57 rfl))))
  (e_LokL (e_stL (er_goto (off := 1376) (tg := 2142) (x_dk dn_0_4_ok 58 rfl) (by decide)))))))))
def te_0_459 (L : Nat) (xs : Nat → Int32) : Nat → eE := (e_T 780 (e_T 774 (e_T 771 (e_T 769 (e_L 769 (0, ei_load 1 2 770, 0, 0)) (e_T 770 (e_L 770 (0, ei_load 0 2 771, 0, 0)) (e_L 771 (0, ei_load 3 0 772, 0, 0)))) (e_T 772 (e_L 772 (0, ei_push (0, 1) 773, 0, 0)) (e_T 773 (e_L 773 (0, ei_bin eF_add 774, 0, 0)) (e_L 774 (0, e_S (g_scd L xs 775), 0, 0))))) (e_T 777 (e_T 775 (e_L 775 (0, ei_load 0 2 776, 0, 0)) (e_T 776 (e_L 776 (0, ei_load 3 0 777, 0, 0)) (e_L 777 (0, ei_push (0, 2) 778, 0, 0)))) (e_T 778 (e_L 778 (0, ei_bin eF_add 779, 0, 0)) (e_T 779 (e_L 779 (0, e_S (g_scd L xs 780), 0, 0)) (e_L 780 (2, e_nof, 201, 3)))))) (e_T 788 (e_T 785 (e_T 783 (e_L 783 (0, ei_stk ef_pop 784, 0, 0)) (e_T 784 (e_L 784 (0, ei_load 2 2 785, 0, 0)) (e_L 785 (0, ei_load 0 2 786, 0, 0)))) (e_T 786 (e_L 786 (0, ei_load 3 0 787, 0, 0)) (e_T 787 (e_L 787 (0, ei_push (0, 1) 788, 0, 0)) (e_L 788 (0, ei_bin eF_add 789, 0, 0))))) (e_T 791 (e_T 789 (e_L 789 (0, e_S (g_scd L xs 790), 0, 0)) (e_T 790 (e_L 790 (0, ei_load 0 2 791, 0, 0)) (e_L 791 (0, ei_load 3 0 792, 0, 0)))) (e_T 793 (e_T 792 (e_L 792 (0, ei_push (0, 2) 793, 0, 0)) (e_L 793 (0, ei_bin eF_add 794, 0, 0))) (e_T 794 (e_L 794 (0, e_S (g_scd L xs 795), 0, 0)) (e_L 795 (2, e_nof, 287, 3)))))))
set_option maxRecDepth 20000 in
set_option maxHeartbeats 4000000 in
theorem te_0_459_ok (L : Nat) (xs : Nat → Int32) : ∀ pc, e_EOl L xs pc (te_0_459 L xs pc) :=
  (e_TokL
  (e_TokL
  (e_TokL
  (e_TokL
  (e_LokL (e_stL (er_aload_n (i := 1) (x_dk dn_0_4_ok 59 rfl))))
  (e_TokL
  (e_LokL (e_stL (er_aload_n (i := 0) (x_dk dn_0_4_ok 60 rfl))))
  (e_LokL (e_stL (er_iload_n (i := 3) (x_dk dn_0_4_ok 61 rfl))))))
  (e_TokL
  (e_LokL (e_stL (er_iconst (n := 1) (z := 1) (v := 1) (x_dk dn_0_4_ok 62 rfl) (by decide) (by decide))))
  (e_TokL
  (e_LokL (e_stL (er_iadd (x_dk dn_0_4_ok 63 rfl))))
  (e_LokL (Or.inr (Or.inr ⟨rfl, (x_dk dn_0_4_ok 64 rfl)⟩))))))
  (e_TokL
  (e_TokL
  (e_LokL (e_stL (er_aload_n (i := 0) (x_dk dn_0_4_ok 65 rfl))))
  (e_TokL
  (e_LokL (e_stL (er_iload_n (i := 3) (x_dk dn_0_4_ok 66 rfl))))
  (e_LokL (e_stL (er_iconst (n := 2) (z := 2) (v := 2) (x_dk dn_0_4_ok 67 rfl) (by decide) (by decide))))))
  (e_TokL
  (e_LokL (e_stL (er_iadd (x_dk dn_0_4_ok 68 rfl))))
  (e_TokL
  (e_LokL (Or.inr (Or.inr ⟨rfl, (x_dk dn_0_4_ok 69 rfl)⟩)))
  (e_LokL (e_caL (q' := n_201) rfl (xr_callV (q' := n_201) (ix := 62) (n := 2) (in_t5 (List.mem_of_getElem? (i := 11) rfl) rfl) good_w (in_t1 (List.mem_of_getElem? (i := 1) rfl) rfl) (in_t5 (List.mem_of_getElem? (i := 8) rfl) rfl) (in_t5 (List.mem_of_getElem? (i := 9) rfl) rfl) (in_t5 (List.mem_of_getElem? (i := 10) rfl) rfl) (by decide +kernel) (by decide +kernel) (by decide +kernel) (x_dk dn_0_4_ok 70 rfl))))))))
  (e_TokL
  (e_TokL
  (e_TokL
  (e_LokL (e_stL (er_pop (x_dk dn_0_4_ok 71 rfl))))
  (e_TokL
  (e_LokL (e_stL (er_aload_n (i := 2) (x_dk dn_0_4_ok 72 rfl))))
  (e_LokL (e_stL (er_aload_n (i := 0) (x_dk dn_0_4_ok 73 rfl))))))
  (e_TokL
  (e_LokL (e_stL (er_iload_n (i := 3) (x_dk dn_0_4_ok 74 rfl))))
  (e_TokL
  (e_LokL (e_stL (er_iconst (n := 1) (z := 1) (v := 1) (x_dk dn_0_4_ok 75 rfl) (by decide) (by decide))))
  (e_LokL (e_stL (er_iadd (x_dk dn_0_4_ok 76 rfl)))))))
  (e_TokL
  (e_TokL
  (e_LokL (Or.inr (Or.inr ⟨rfl, (x_dk dn_0_4_ok 77 rfl)⟩)))
  (e_TokL
  (e_LokL (e_stL (er_aload_n (i := 0) (x_dk dn_0_4_ok 78 rfl))))
  (e_LokL (e_stL (er_iload_n (i := 3) (x_dk dn_0_4_ok 79 rfl))))))
  (e_TokL
  (e_TokL
  (e_LokL (e_stL (er_iconst (n := 2) (z := 2) (v := 2) (x_dk dn_0_4_ok 80 rfl) (by decide) (by decide))))
  (e_LokL (e_stL (er_iadd (x_dk dn_0_4_ok 81 rfl)))))
  (e_TokL
  (e_LokL (Or.inr (Or.inr ⟨rfl, (x_dk dn_0_4_ok 82 rfl)⟩)))
  (e_LokL (e_caL (q' := n_287) rfl (xr_callV (q' := n_287) (ix := 66) (n := 2) (in_t11 (List.mem_of_getElem? (i := 75) rfl) rfl) good_w (in_t1 (List.mem_of_getElem? (i := 14) rfl) rfl) (in_t11 (List.mem_of_getElem? (i := 72) rfl) rfl) (in_t11 (List.mem_of_getElem? (i := 73) rfl) rfl) (in_t11 (List.mem_of_getElem? (i := 74) rfl) rfl) (by decide +kernel) (by decide +kernel) (by decide +kernel) (x_dk dn_0_4_ok 83 rfl)))))))))
def te_0_484 (L : Nat) (xs : Nat → Int32) : Nat → eE := (e_T 811 (e_T 805 (e_T 802 (e_T 798 (e_L 798 (0, ei_stk ef_pop 799, 0, 0)) (e_T 799 (e_L 799 (0, ei_goto 2142, 0, 0)) (e_L 802 (0, ei_load 1 2 803, 0, 0)))) (e_T 803 (e_L 803 (0, ei_load 0 2 804, 0, 0)) (e_T 804 (e_L 804 (0, ei_load 3 0 805, 0, 0)) (e_L 805 (0, ei_push (0, 1) 806, 0, 0))))) (e_T 808 (e_T 806 (e_L 806 (0, ei_bin eF_add 807, 0, 0)) (e_T 807 (e_L 807 (0, e_S (g_scd L xs 808), 0, 0)) (e_L 808 (0, ei_load 0 2 809, 0, 0)))) (e_T 809 (e_L 809 (0, ei_load 3 0 810, 0, 0)) (e_T 810 (e_L 810 (0, ei_push (0, 2) 811, 0, 0)) (e_L 811 (0, ei_bin eF_add 812, 0, 0)))))) (e_T 817 (e_T 814 (e_T 812 (e_L 812 (0, e_S (g_scd L xs 813), 0, 0)) (e_T 813 (e_L 813 (0, ei_load 0 2 814, 0, 0)) (e_L 814 (0, ei_load 3 0 815, 0, 0)))) (e_T 815 (e_L 815 (0, ei_push (0, 3) 816, 0, 0)) (e_T 816 (e_L 816 (0, ei_bin eF_add 817, 0, 0)) (e_L 817 (0, e_S (g_scd L xs 818), 0, 0))))) (e_T 820 (e_T 818 (e_L 818 (0, ei_load 0 2 819, 0, 0)) (e_T 819 (e_L 819 (0, ei_load 3 0 820, 0, 0)) (e_L 820 (0, ei_push (0, 4) 821, 0, 0)))) (e_T 821 (e_L 821 (0, ei_bin eF_add 822, 0, 0)) (e_T 822 (e_L 822 (0, e_S (g_scd L xs 823), 0, 0)) (e_L 823 (2, e_nof, 202, 5)))))))
set_option maxRecDepth 20000 in
set_option maxHeartbeats 4000000 in
theorem te_0_484_ok (L : Nat) (xs : Nat → Int32) : ∀ pc, e_EOl L xs pc (te_0_484 L xs pc) :=
  (e_TokL
  (e_TokL
  (e_TokL
  (e_TokL
  (e_LokL (e_stL (er_pop (x_dk dn_0_4_ok 84 rfl))))
  (e_TokL
  (e_LokL (e_stL (er_goto (off := 1343) (tg := 2142) (x_dk dn_0_4_ok 85 rfl) (by decide))))
  (e_LokL (e_stL (er_aload_n (i := 1) (x_dk dn_0_4_ok 86 rfl))))))
  (e_TokL
  (e_LokL (e_stL (er_aload_n (i := 0) (x_dk dn_0_4_ok 87 rfl))))
  (e_TokL
  (e_LokL (e_stL (er_iload_n (i := 3) (x_dk dn_0_4_ok 88 rfl))))
  (e_LokL (e_stL (er_iconst (n := 1) (z := 1) (v := 1) (x_dk dn_0_4_ok 89 rfl) (by decide) (by decide)))))))
  (e_TokL
  (e_TokL
  (e_LokL (e_stL (er_iadd (x_dk dn_0_4_ok 90 rfl))))
  (e_TokL
  (e_LokL (Or.inr (Or.inr ⟨rfl, (x_dk dn_0_4_ok 91 rfl)⟩)))
  (e_LokL (e_stL (er_aload_n (i := 0) (x_dk dn_0_4_ok 92 rfl))))))
  (e_TokL
  (e_LokL (e_stL (er_iload_n (i := 3) (x_dk dn_0_4_ok 93 rfl))))
  (e_TokL
  (e_LokL (e_stL (er_iconst (n := 2) (z := 2) (v := 2) (x_dk dn_0_4_ok 94 rfl) (by decide) (by decide))))
  (e_LokL (e_stL (er_iadd (x_dk dn_0_4_ok 95 rfl))))))))
  (e_TokL
  (e_TokL
  (e_TokL
  (e_LokL (Or.inr (Or.inr ⟨rfl, (x_dk dn_0_4_ok 96 rfl)⟩)))
  (e_TokL
  (e_LokL (e_stL (er_aload_n (i := 0) (x_dk dn_0_4_ok 97 rfl))))
  (e_LokL (e_stL (er_iload_n (i := 3) (x_dk dn_0_4_ok 98 rfl))))))
  (e_TokL
  (e_LokL (e_stL (er_iconst (n := 3) (z := 3) (v := 3) (x_dk dn_0_4_ok 99 rfl) (by decide) (by decide))))
  (e_TokL
  (e_LokL (e_stL (er_iadd (x_dk dn_0_5_ok 0 rfl))))
  (e_LokL (Or.inr (Or.inr ⟨rfl, (x_dk dn_0_5_ok 1 rfl)⟩))))))
  (e_TokL
  (e_TokL
  (e_LokL (e_stL (er_aload_n (i := 0) (x_dk dn_0_5_ok 2 rfl))))
  (e_TokL
  (e_LokL (e_stL (er_iload_n (i := 3) (x_dk dn_0_5_ok 3 rfl))))
  (e_LokL (e_stL (er_iconst (n := 4) (z := 4) (v := 4) (x_dk dn_0_5_ok 4 rfl) (by decide) (by decide))))))
  (e_TokL
  (e_LokL (e_stL (er_iadd (x_dk dn_0_5_ok 5 rfl))))
  (e_TokL
  (e_LokL (Or.inr (Or.inr ⟨rfl, (x_dk dn_0_5_ok 6 rfl)⟩)))
  (e_LokL (e_caL (q' := n_202) rfl (xr_callV (q' := n_202) (ix := 67) (n := 4) (in_t5 (List.mem_of_getElem? (i := 19) rfl) rfl) good_w (in_t1 (List.mem_of_getElem? (i := 1) rfl) rfl) (in_t5 (List.mem_of_getElem? (i := 16) rfl) rfl) (in_t5 (List.mem_of_getElem? (i := 17) rfl) rfl) (in_t5 (List.mem_of_getElem? (i := 18) rfl) rfl) (by decide +kernel) (by decide +kernel) (by decide +kernel) (x_dk dn_0_5_ok 7 rfl)))))))))
def te_0_508 (L : Nat) (xs : Nat → Int32) : Nat → eE := (e_T 837 (e_T 831 (e_T 828 (e_T 826 (e_L 826 (0, ei_stk ef_pop 827, 0, 0)) (e_T 827 (e_L 827 (0, ei_load 2 2 828, 0, 0)) (e_L 828 (0, ei_load 0 2 829, 0, 0)))) (e_T 829 (e_L 829 (0, ei_load 3 0 830, 0, 0)) (e_T 830 (e_L 830 (0, ei_push (0, 1) 831, 0, 0)) (e_L 831 (0, ei_bin eF_add 832, 0, 0))))) (e_T 834 (e_T 832 (e_L 832 (0, e_S (g_scd L xs 833), 0, 0)) (e_T 833 (e_L 833 (0, ei_load 0 2 834, 0, 0)) (e_L 834 (0, ei_load 3 0 835, 0, 0)))) (e_T 835 (e_L 835 (0, ei_push (0, 2) 836, 0, 0)) (e_T 836 (e_L 836 (0, ei_bin eF_add 837, 0, 0)) (e_L 837 (0, e_S (g_scd L xs 838), 0, 0)))))) (e_T 843 (e_T 840 (e_T 838 (e_L 838 (0, ei_load 0 2 839, 0, 0)) (e_T 839 (e_L 839 (0, ei_load 3 0 840, 0, 0)) (e_L 840 (0, ei_push (0, 3) 841, 0, 0)))) (e_T 841 (e_L 841 (0, ei_bin eF_add 842, 0, 0)) (e_T 842 (e_L 842 (0, e_S (g_scd L xs 843), 0, 0)) (e_L 843 (0, ei_load 0 2 844, 0, 0))))) (e_T 846 (e_T 844 (e_L 844 (0, ei_load 3 0 845, 0, 0)) (e_T 845 (e_L 845 (0, ei_push (0, 4) 846, 0, 0)) (e_L 846 (0, ei_bin eF_add 847, 0, 0)))) (e_T 847 (e_L 847 (0, e_S (g_scd L xs 848), 0, 0)) (e_T 848 (e_L 848 (2, e_nof, 288, 5)) (e_L 851 (0, ei_stk ef_pop 852, 0, 0)))))))
set_option maxRecDepth 20000 in
set_option maxHeartbeats 4000000 in
theorem te_0_508_ok (L : Nat) (xs : Nat → Int32) : ∀ pc, e_EOl L xs pc (te_0_508 L xs pc) :=
  (e_TokL
  (e_TokL
  (e_TokL
  (e_TokL
  (e_LokL (e_stL (er_pop (x_dk dn_0_5_ok 8 rfl))))
  (e_TokL
  (e_LokL (e_stL (er_aload_n (i := 2) (x_dk dn_0_5_ok 9 rfl))))
  (e_LokL (e_stL (er_aload_n (i := 0) (x_dk dn_0_5_ok 10 rfl))))))
  (e_TokL
  (e_LokL (e_stL (er_iload_n (i := 3) (x_dk dn_0_5_ok 11 rfl))))
  (e_TokL
  (e_LokL (e_stL (er_iconst (n := 1) (z := 1) (v := 1) (x_dk dn_0_5_ok 12 rfl) (by decide) (by decide))))
  (e_LokL (e_stL (er_iadd (x_dk dn_0_5_ok 13 rfl)))))))
  (e_TokL
  (e_TokL
  (e_LokL (Or.inr (Or.inr ⟨rfl, (x_dk dn_0_5_ok 14 rfl)⟩)))
  (e_TokL
  (e_LokL (e_stL (er_aload_n (i := 0) (x_dk dn_0_5_ok 15 rfl))))
  (e_LokL (e_stL (er_iload_n (i := 3) (x_dk dn_0_5_ok 16 rfl))))))
  (e_TokL
  (e_LokL (e_stL (er_iconst (n := 2) (z := 2) (v := 2) (x_dk dn_0_5_ok 17 rfl) (by decide) (by decide))))
  (e_TokL
  (e_LokL (e_stL (er_iadd (x_dk dn_0_5_ok 18 rfl))))
  (e_LokL (Or.inr (Or.inr ⟨rfl, (x_dk dn_0_5_ok 19 rfl)⟩)))))))
  (e_TokL
  (e_TokL
  (e_TokL
  (e_LokL (e_stL (er_aload_n (i := 0) (x_dk dn_0_5_ok 20 rfl))))
  (e_TokL
  (e_LokL (e_stL (er_iload_n (i := 3) (x_dk dn_0_5_ok 21 rfl))))
  (e_LokL (e_stL (er_iconst (n := 3) (z := 3) (v := 3) (x_dk dn_0_5_ok 22 rfl) (by decide) (by decide))))))
  (e_TokL
  (e_LokL (e_stL (er_iadd (x_dk dn_0_5_ok 23 rfl))))
  (e_TokL
  (e_LokL (Or.inr (Or.inr ⟨rfl, (x_dk dn_0_5_ok 24 rfl)⟩)))
  (e_LokL (e_stL (er_aload_n (i := 0) (x_dk dn_0_5_ok 25 rfl)))))))
  (e_TokL
  (e_TokL
  (e_LokL (e_stL (er_iload_n (i := 3) (x_dk dn_0_5_ok 26 rfl))))
  (e_TokL
  (e_LokL (e_stL (er_iconst (n := 4) (z := 4) (v := 4) (x_dk dn_0_5_ok 27 rfl) (by decide) (by decide))))
  (e_LokL (e_stL (er_iadd (x_dk dn_0_5_ok 28 rfl))))))
  (e_TokL
  (e_LokL (Or.inr (Or.inr ⟨rfl, (x_dk dn_0_5_ok 29 rfl)⟩)))
  (e_TokL
  (e_LokL (e_caL (q' := n_288) rfl (xr_callV (q' := n_288) (ix := 70) (n := 4) (in_t11 (List.mem_of_getElem? (i := 80) rfl) rfl) good_w (in_t1 (List.mem_of_getElem? (i := 14) rfl) rfl) (in_t11 (List.mem_of_getElem? (i := 77) rfl) rfl) (in_t11 (List.mem_of_getElem? (i := 78) rfl) rfl) (in_t11 (List.mem_of_getElem? (i := 79) rfl) rfl) (by decide +kernel) (by decide +kernel) (by decide +kernel) (x_dk dn_0_5_ok 30 rfl))))
  (e_LokL (e_stL (er_pop (x_dk dn_0_5_ok 31 rfl)))))))))
def te_0_532 (L : Nat) (xs : Nat → Int32) : Nat → eE := (e_T 865 (e_T 859 (e_T 856 (e_T 852 (e_L 852 (0, ei_goto 2142, 0, 0)) (e_T 855 (e_L 855 (0, ei_load 1 2 856, 0, 0)) (e_L 856 (0, ei_load 0 2 857, 0, 0)))) (e_T 857 (e_L 857 (0, ei_load 3 0 858, 0, 0)) (e_T 858 (e_L 858 (0, ei_push (0, 1) 859, 0, 0)) (e_L 859 (0, ei_bin eF_add 860, 0, 0))))) (e_T 862 (e_T 860 (e_L 860 (0, e_S (g_scd L xs 861), 0, 0)) (e_T 861 (e_L 861 (0, ei_load 0 2 862, 0, 0)) (e_L 862 (0, ei_load 3 0 863, 0, 0)))) (e_T 863 (e_L 863 (0, ei_push (0, 2) 864, 0, 0)) (e_T 864 (e_L 864 (0, ei_bin eF_add 865, 0, 0)) (e_L 865 (0, e_S (g_scd L xs 866), 0, 0)))))) (e_T 871 (e_T 868 (e_T 866 (e_L 866 (0, ei_load 0 2 867, 0, 0)) (e_T 867 (e_L 867 (0, ei_load 3 0 868, 0, 0)) (e_L 868 (0, ei_push (0, 3) 869, 0, 0)))) (e_T 869 (e_L 869 (0, ei_bin eF_add 870, 0, 0)) (e_T 870 (e_L 870 (0, e_S (g_scd L xs 871), 0, 0)) (e_L 871 (2, e_nof, 203, 4))))) (e_T 876 (e_T 874 (e_L 874 (0, ei_stk ef_pop 875, 0, 0)) (e_T 875 (e_L 875 (0, ei_load 2 2 876, 0, 0)) (e_L 876 (0, ei_load 0 2 877, 0, 0)))) (e_T 877 (e_L 877 (0, ei_load 3 0 878, 0, 0)) (e_T 878 (e_L 878 (0, ei_push (0, 1) 879, 0, 0)) (e_L 879 (0, ei_bin eF_add 880, 0, 0)))))))
set_option maxRecDepth 20000 in
set_option maxHeartbeats 4000000 in
theorem te_0_532_ok (L : Nat) (xs : Nat → Int32) : ∀ pc, e_EOl L xs pc (te_0_532 L xs pc) :=
  (e_TokL
  (e_TokL
  (e_TokL
  (e_TokL
  (e_LokL (e_stL (er_goto (off := 1290) (tg := 2142) (x_dk dn_0_5_ok 32 rfl) (by decide))))
  (e_TokL
  (e_LokL (e_stL (er_aload_n (i := 1) (x_dk dn_0_5_ok 33 rfl))))
  (e_LokL (e_stL (er_aload_n (i := 0) (x_dk dn_0_5_ok 34 rfl))))))
  (e_TokL
  (e_LokL (e_stL (er_iload_n (i := 3) (x_dk dn_0_5_ok 35 rfl))))
  (e_TokL
  (e_LokL (e_stL (er_iconst (n := 1) (z := 1) (v := 1) (x_dk dn_0_5_ok 36 rfl) (by decide) (by decide))))
  (e_LokL (e_stL (er_iadd (x_dk dn_0_5_ok 37 rfl)))))))
  (e_TokL
  (e_TokL
  (e_LokL (Or.inr (Or.inr ⟨rfl, (x_dk dn_0_5_ok 38 rfl)⟩)))
  (e_TokL
  (e_LokL (e_stL (er_aload_n (i := 0) (x_dk dn_0_5_ok 39 rfl))))
  (e_LokL (e_stL (er_iload_n (i := 3) (x_dk dn_0_5_ok 40 rfl))))))
  (e_TokL
  (e_LokL (e_stL (er_iconst (n := 2) (z := 2) (v := 2) (x_dk dn_0_5_ok 41 rfl) (by decide) (by decide))))
  (e_TokL
  (e_LokL (e_stL (er_iadd (x_dk dn_0_5_ok 42 rfl))))
  (e_LokL (Or.inr (Or.inr ⟨rfl, (x_dk dn_0_5_ok 43 rfl)⟩)))))))
  (e_TokL
  (e_TokL
  (e_TokL
  (e_LokL (e_stL (er_aload_n (i := 0) (x_dk dn_0_5_ok 44 rfl))))
  (e_TokL
  (e_LokL (e_stL (er_iload_n (i := 3) (x_dk dn_0_5_ok 45 rfl))))
  (e_LokL (e_stL (er_iconst (n := 3) (z := 3) (v := 3) (x_dk dn_0_5_ok 46 rfl) (by decide) (by decide))))))
  (e_TokL
  (e_LokL (e_stL (er_iadd (x_dk dn_0_5_ok 47 rfl))))
  (e_TokL
  (e_LokL (Or.inr (Or.inr ⟨rfl, (x_dk dn_0_5_ok 48 rfl)⟩)))
  (e_LokL (e_caL (q' := n_203) rfl (xr_callV (q' := n_203) (ix := 71) (n := 3) (in_t5 (List.mem_of_getElem? (i := 26) rfl) rfl) good_w (in_t1 (List.mem_of_getElem? (i := 1) rfl) rfl) (in_t5 (List.mem_of_getElem? (i := 23) rfl) rfl) (in_t5 (List.mem_of_getElem? (i := 24) rfl) rfl) (in_t5 (List.mem_of_getElem? (i := 25) rfl) rfl) (by decide +kernel) (by decide +kernel) (by decide +kernel) (x_dk dn_0_5_ok 49 rfl)))))))
  (e_TokL
  (e_TokL
  (e_LokL (e_stL (er_pop (x_dk dn_0_5_ok 50 rfl))))
  (e_TokL
  (e_LokL (e_stL (er_aload_n (i := 2) (x_dk dn_0_5_ok 51 rfl))))
  (e_LokL (e_stL (er_aload_n (i := 0) (x_dk dn_0_5_ok 52 rfl))))))
  (e_TokL
  (e_LokL (e_stL (er_iload_n (i := 3) (x_dk dn_0_5_ok 53 rfl))))
  (e_TokL
  (e_LokL (e_stL (er_iconst (n := 1) (z := 1) (v := 1) (x_dk dn_0_5_ok 54 rfl) (by decide) (by decide))))
  (e_LokL (e_stL (er_iadd (x_dk dn_0_5_ok 55 rfl)))))))))
def te_0_556 (L : Nat) (xs : Nat → Int32) : Nat → eE := (e_T 891 (e_T 885 (e_T 882 (e_T 880 (e_L 880 (0, e_S (g_scd L xs 881), 0, 0)) (e_T 881 (e_L 881 (0, ei_load 0 2 882, 0, 0)) (e_L 882 (0, ei_load 3 0 883, 0, 0)))) (e_T 883 (e_L 883 (0, ei_push (0, 2) 884, 0, 0)) (e_T 884 (e_L 884 (0, ei_bin eF_add 885, 0, 0)) (e_L 885 (0, e_S (g_scd L xs 886), 0, 0))))) (e_T 888 (e_T 886 (e_L 886 (0, ei_load 0 2 887, 0, 0)) (e_T 887 (e_L 887 (0, ei_load 3 0 888, 0, 0)) (e_L 888 (0, ei_push (0, 3) 889, 0, 0)))) (e_T 889 (e_L 889 (0, ei_bin eF_add 890, 0, 0)) (e_T 890 (e_L 890 (0, e_S (g_scd L xs 891), 0, 0)) (e_L 891 (2, e_nof, 289, 4)))))) (e_T 901 (e_T 898 (e_T 894 (e_L 894 (0, ei_stk ef_pop 895, 0, 0)) (e_T 895 (e_L 895 (0, ei_goto 2142, 0, 0)) (e_L 898 (0, ei_load 1 2 899, 0, 0)))) (e_T 899 (e_L 899 (0, ei_load 0 2 900, 0, 0)) (e_T 900 (e_L 900 (0, ei_load 3 0 901, 0, 0)) (e_L 901 (0, ei_push (0, 1) 902, 0, 0))))) (e_T 904 (e_T 902 (e_L 902 (0, ei_bin eF_add 903, 0, 0)) (e_T 903 (e_L 903 (0, e_S (g_scd L xs 904), 0, 0)) (e_L 904 (0, ei_load 0 2 905, 0, 0)))) (e_T 906 (e_T 905 (e_L 905 (0, ei_load 3 0 906, 0, 0)) (e_L 906 (0, ei_push (0, 2) 907, 0, 0))) (e_T 907 (e_L 907 (0, ei_bin eF_add 908, 0, 0)) (e_L 908 (0, e_S (g_scd L xs 909), 0, 0)))))))
set_option maxRecDepth 20000 in
set_option maxHeartbeats 4000000 in
theorem te_0_556_ok (L : Nat) (xs : Nat → Int32) : ∀ pc, e_EOl L xs pc (te_0_556 L xs pc) :=
  (e_TokL
  (e_TokL
  (e_TokL
  (e_TokL
  (e_LokL (Or.inr (Or.inr ⟨rfl, (x_dk dn_0_5_ok 56 rfl)⟩)))
  (e_TokL
  (e_LokL (e_stL (er_aload_n (i := 0) (x_dk dn_0_5_ok 57 rfl))))
  (e_LokL (e_stL (er_iload_n (i := 3) (x_dk dn_0_5_ok 58 rfl))))))
  (e_TokL
  (e_LokL (e_stL (er_iconst (n := 2) (z := 2) (v := 2) (x_dk dn_0_5_ok 59 rfl) (by decide) (by decide))))
  (e_TokL
  (e_LokL (e_stL (er_iadd (x_dk dn_0_5_ok 60 rfl))))
  (e_LokL (Or.inr (Or.inr ⟨rfl, (x_dk dn_0_5_ok 61 rfl)⟩))))))
  (e_TokL
  (e_TokL
  (e_LokL (e_stL (er_aload_n (i := 0) (x_dk dn_0_5_ok 62 rfl))))
  (e_TokL
  (e_LokL (e_stL (er_iload_n (i := 3) (x_dk dn_0_5_ok 63 rfl))))
  (e_LokL (e_stL (er_iconst (n := 3) (z := 3) (v := 3) (x_dk dn_0_5_ok 64 rfl) (by decide) (by decide))))))
  (e_TokL
  (e_LokL (e_stL (er_iadd (x_dk dn_0_5_ok 65 rfl))))
  (e_TokL
  (e_LokL (Or.inr (Or.inr ⟨rfl, (x_dk dn_0_5_ok 66 rfl)⟩)))
  (e_LokL (e_caL (q' := n_289) rfl (xr_callV (q' := n_289) (ix := 74) (n := 3) (in_t11 (List.mem_of_getElem? (i := 85) rfl) rfl) good_w (in_t1 (List.mem_of_getElem? (i := 14) rfl) rfl) (in_t11 (List.mem_of_getElem? (i := 82) rfl) rfl) (in_t11 (List.mem_of_getElem? (i := 83) rfl) rfl) (in_t11 (List.mem_of_getElem? (i := 84) rfl) rfl) (by decide +kernel) (by decide +kernel) (by decide +kernel) (x_dk dn_0_5_ok 67 rfl))))))))
  (e_TokL
  (e_TokL
  (e_TokL
  (e_LokL (e_stL (er_pop (x_dk dn_0_5_ok 68 rfl))))
  (e_TokL
  (e_LokL (e_stL (er_goto (off := 1247) (tg := 2142) (x_dk dn_0_5_ok 69 rfl) (by decide))))
  (e_LokL (e_stL (er_aload_n (i := 1) (x_dk dn_0_5_ok 70 rfl))))))
  (e_TokL
  (e_LokL (e_stL (er_aload_n (i := 0) (x_dk dn_0_5_ok 71 rfl))))
  (e_TokL
  (e_LokL (e_stL (er_iload_n (i := 3) (x_dk dn_0_5_ok 72 rfl))))
  (e_LokL (e_stL (er_iconst (n := 1) (z := 1) (v := 1) (x_dk dn_0_5_ok 73 rfl) (by decide) (by decide)))))))
  (e_TokL
  (e_TokL
  (e_LokL (e_stL (er_iadd (x_dk dn_0_5_ok 74 rfl))))
  (e_TokL
  (e_LokL (Or.inr (Or.inr ⟨rfl, (x_dk dn_0_5_ok 75 rfl)⟩)))
  (e_LokL (e_stL (er_aload_n (i := 0) (x_dk dn_0_5_ok 76 rfl))))))
  (e_TokL
  (e_TokL
  (e_LokL (e_stL (er_iload_n (i := 3) (x_dk dn_0_5_ok 77 rfl))))
  (e_LokL (e_stL (er_iconst (n := 2) (z := 2) (v := 2) (x_dk dn_0_5_ok 78 rfl) (by decide) (by decide)))))
  (e_TokL
  (e_LokL (e_stL (er_iadd (x_dk dn_0_5_ok 79 rfl))))
  (e_LokL (Or.inr (Or.inr ⟨rfl, (x_dk dn_0_5_ok 80 rfl)⟩))))))))
def te_0_581 (L : Nat) (xs : Nat → Int32) : Nat → eE := (e_T 922 (e_T 914 (e_T 911 (e_T 909 (e_L 909 (0, ei_load 0 2 910, 0, 0)) (e_T 910 (e_L 910 (0, ei_load 3 0 911, 0, 0)) (e_L 911 (0, ei_push (0, 3) 912, 0, 0)))) (e_T 912 (e_L 912 (0, ei_bin eF_add 913, 0, 0)) (e_T 913 (e_L 913 (0, e_S (g_scd L xs 914), 0, 0)) (e_L 914 (2, e_nof, 204, 4))))) (e_T 919 (e_T 917 (e_L 917 (0, ei_stk ef_pop 918, 0, 0)) (e_T 918 (e_L 918 (0, ei_load 2 2 919, 0, 0)) (e_L 919 (0, ei_load 0 2 920, 0, 0)))) (e_T 920 (e_L 920 (0, ei_load 3 0 921, 0, 0)) (e_T 921 (e_L 921 (0, ei_push (0, 1) 922, 0, 0)) (e_L 922 (0, ei_bin eF_add 923, 0, 0)))))) (e_T 928 (e_T 925 (e_T 923 (e_L 923 (0, e_S (g_scd L xs 924), 0, 0)) (e_T 924 (e_L 924 (0, ei_load 0 2 925, 0, 0)) (e_L 925 (0, ei_load 3 0 926, 0, 0)))) (e_T 926 (e_L 926 (0, ei_push (0, 2) 927, 0, 0)) (e_T 927 (e_L 927 (0, ei_bin eF_add 928, 0, 0)) (e_L 928 (0, e_S (g_scd L xs 929), 0, 0))))) (e_T 931 (e_T 929 (e_L 929 (0, ei_load 0 2 930, 0, 0)) (e_T 930 (e_L 930 (0, ei_load 3 0 931, 0, 0)) (e_L 931 (0, ei_push (0, 3) 932, 0, 0)))) (e_T 932 (e_L 932 (0, ei_bin eF_add 933, 0, 0)) (e_T 933 (e_L 933 (0, e_S (g_scd L xs 934), 0, 0)) (e_L 934 (2, e_nof, 290, 4)))))))
set_option maxRecDepth 20000 in
set_option maxHeartbeats 4000000 in
theorem te_0_581_ok (L : Nat) (xs : Nat → Int32) : ∀ pc, e_EOl L xs pc (te_0_581 L xs pc) :=
  (e_TokL
  (e_TokL
  (e_TokL
  (e_TokL
  (e_LokL (e_stL (er_aload_n (i := 0) (x_dk dn_0_5_ok 81 rfl))))
  (e_TokL
  (e_LokL (e_stL (er_iload_n (i := 3) (x_dk dn_0_5_ok 82 rfl))))
  (e_LokL (e_stL (er_iconst (n := 3) (z := 3) (v := 3) (x_dk dn_0_5_ok 83 rfl) (by decide) (by decide))))))
  (e_TokL
  (e_LokL (e_stL (er_iadd (x_dk dn_0_5_ok 84 rfl))))
  (e_TokL
  (e_LokL (Or.inr (Or.inr ⟨rfl, (x_dk dn_0_5_ok 85 rfl)⟩)))
  (e_LokL (e_caL (q' := n_204) rfl (xr_callV (q' := n_204) (ix := 75) (n := 3) (in_t5 (List.mem_of_getElem? (i := 34) rfl) rfl) good_w (in_t1 (List.mem_of_getElem? (i := 1) rfl) rfl) (in_t5 (List.mem_of_getElem? (i := 31) rfl) rfl) (in_t5 (List.mem_of_getElem? (i := 32) rfl) rfl) (in_t5 (List.mem_of_getElem? (i := 33) rfl) rfl) (by decide +kernel) (by decide +kernel) (by decide +kernel) (x_dk dn_0_5_ok 86 rfl)))))))
  (e_TokL
  (e_TokL
  (e_LokL (e_stL (er_pop (x_dk dn_0_5_ok 87 rfl))))
  (e_TokL
  (e_LokL (e_stL (er_aload_n (i := 2) (x_dk dn_0_5_ok 88 rfl))))
  (e_LokL (e_stL (er_aload_n (i := 0) (x_dk dn_0_5_ok 89 rfl))))))
  (e_TokL
  (e_LokL (e_stL (er_iload_n (i := 3) (x_dk dn_0_5_ok 90 rfl))))
  (e_TokL
  (e_LokL (e_stL (er_iconst (n := 1) (z := 1) (v := 1) (x_dk dn_0_5_ok 91 rfl) (by decide) (by decide))))
  (e_LokL (e_stL (er_iadd (x_dk dn_0_5_ok 92 rfl))))))))
  (e_TokL
  (e_TokL
  (e_TokL
  (e_LokL (Or.inr (Or.inr ⟨rfl, (x_dk dn_0_5_ok 93 rfl)⟩)))
  (e_TokL
  (e_LokL (e_stL (er_aload_n (i := 0) (x_dk dn_0_5_ok 94 rfl))))
  (e_LokL (e_stL (er_iload_n (i := 3) (x_dk dn_0_5_ok 95 rfl))))))
  (e_TokL
  (e_LokL (e_stL (er_iconst (n := 2) (z := 2) (v := 2) (x_dk dn_0_5_ok 96 rfl) (by decide) (by decide))))
  (e_TokL
  (e_LokL (e_stL (er_iadd (x_dk dn_0_5_ok 97 rfl))))
  (e_LokL (Or.inr (Or.inr ⟨rfl, (x_dk dn_0_5_ok 98 rfl)⟩))))))
  (e_TokL
  (e_TokL
  (e_LokL (e_stL (er_aload_n (i := 0) (x_dk dn_0_5_ok 99 rfl))))
  (e_TokL
  (e_LokL (e_stL (er_iload_n (i := 3) (x_dk dn_0_6_ok 0 rfl))))
  (e_LokL (e_stL (er_iconst (n := 3) (z := 3) (v := 3) (x_dk dn_0_6_ok 1 rfl) (by decide) (by decide))))))
  (e_TokL
  (e_LokL (e_stL (er_iadd (x_dk dn_0_6_ok 2 rfl))))
  (e_TokL
  (e_LokL (Or.inr (Or.inr ⟨rfl, (x_dk dn_0_6_ok 3 rfl)⟩)))
  (e_LokL (e_caL (q' := n_290) rfl (xr_callV (q' := n_290) (ix := 78) (n := 3) (in_t11 (List.mem_of_getElem? (i := 96) rfl) rfl) good_w (in_t1 (List.mem_of_getElem? (i := 14) rfl) rfl) (in_t11 (List.mem_of_getElem? (i := 93) rfl) rfl) (in_t11 (List.mem_of_getElem? (i := 94) rfl) rfl) (in_t11 (List.mem_of_getElem? (i := 95) rfl) rfl) (by decide +kernel) (by decide +kernel) (by decide +kernel) (x_dk dn_0_6_ok 4 rfl)))))))))
def te_0_605 (L : Nat) (xs : Nat → Int32) : Nat → eE := (e_T 950 (e_T 944 (e_T 941 (e_T 937 (e_L 937 (0, ei_stk ef_pop 938, 0, 0)) (e_T 938 (e_L 938 (0, ei_goto 2142, 0, 0)) (e_L 941 (0, ei_load 1 2 942, 0, 0)))) (e_T 942 (e_L 942 (0, ei_load 0 2 943, 0, 0)) (e_T 943 (e_L 943 (0, ei_load 3 0 944, 0, 0)) (e_L 944 (0, ei_push (0, 1) 945, 0, 0))))) (e_T 947 (e_T 945 (e_L 945 (0, ei_bin eF_add 946, 0, 0)) (e_T 946 (e_L 946 (0, e_S (g_scd L xs 947), 0, 0)) (e_L 947 (0, ei_load 0 2 948, 0, 0)))) (e_T 948 (e_L 948 (0, ei_load 3 0 949, 0, 0)) (e_T 949 (e_L 949 (0, ei_push (0, 2) 950, 0, 0)) (e_L 950 (0, ei_bin eF_add 951, 0, 0)))))) (e_T 956 (e_T 953 (e_T 951 (e_L 951 (0, e_S (g_scd L xs 952), 0, 0)) (e_T 952 (e_L 952 (0, ei_load 0 2 953, 0, 0)) (e_L 953 (0, ei_load 3 0 954, 0, 0)))) (e_T 954 (e_L 954 (0, ei_push (0, 3) 955, 0, 0)) (e_T 955 (e_L 955 (0, ei_bin eF_add 956, 0, 0)) (e_L 956 (0, e_S (g_scd L xs 957), 0, 0))))) (e_T 959 (e_T 957 (e_L 957 (0, ei_load 0 2 958, 0, 0)) (e_T 958 (e_L 958 (0, ei_load 3 0 959, 0, 0)) (e_L 959 (0, ei_push (0, 4) 960, 0, 0)))) (e_T 960 (e_L 960 (0, ei_bin eF_add 961, 0, 0)) (e_T 961 (e_L 961 (0, e_S (g_scd L xs 962), 0, 0)) (e_L 962 (0, ei_load 0 2 963, 0, 0)))))))
set_option maxRecDepth 20000 in
set_option maxHeartbeats 4000000 in
theorem te_0_605_ok (L : Nat) (xs : Nat → Int32) : ∀ pc, e_EOl L xs pc (te_0_605 L xs pc) :=
  (e_TokL
  (e_TokL
  (e_TokL
  (e_TokL
  (e_LokL (e_stL (er_pop (x_dk dn_0_6_ok 5 rfl))))
  (e_TokL
  (e_LokL (e_stL (er_goto (off := 1204) (tg := 2142) (x_dk dn_0_6_ok 6 rfl) (by decide))))
  (e_LokL (e_stL (er_aload_n (i := 1) (x_dk dn_0_6_ok 7 rfl))))))
  (e_TokL
  (e_LokL (e_stL (er_aload_n (i := 0) (x_dk dn_0_6_ok 8 rfl))))
  (e_TokL
  (e_LokL (e_stL (er_iload_n (i := 3) (x_dk dn_0_6_ok 9 rfl))))
  (e_LokL (e_stL (er_iconst (n := 1) (z := 1) (v := 1) (x_dk dn_0_6_ok 10 rfl) (by decide) (by decide)))))))
  (e_TokL
  (e_TokL
  (e_LokL (e_stL (er_iadd (x_dk dn_0_6_ok 11 rfl))))
  (e_TokL
  (e_LokL (Or.inr (Or.inr ⟨rfl, (x_dk dn_0_6_ok 12 rfl)⟩)))
  (e_LokL (e_stL (er_aload_n (i := 0) (x_dk dn_0_6_ok 13 rfl))))))
  (e_TokL
  (e_LokL (e_stL (er_iload_n (i := 3) (x_dk dn_0_6_ok 14 rfl))))
  (e_TokL
  (e_LokL (e_stL (er_iconst (n := 2) (z := 2) (v := 2) (x_dk dn_0_6_ok 15 rfl) (by decide) (by decide))))
  (e_LokL (e_stL (er_iadd (x_dk dn_0_6_ok 16 rfl))))))))
  (e_TokL
  (e_TokL
  (e_TokL
  (e_LokL (Or.inr (Or.inr ⟨rfl, (x_dk dn_0_6_ok 17 rfl)⟩)))
  (e_TokL
  (e_LokL (e_stL (er_aload_n (i := 0) (x_dk dn_0_6_ok 18 rfl))))
  (e_LokL (e_stL (er_iload_n (i := 3) (x_dk dn_0_6_ok 19 rfl))))))
  (e_TokL
  (e_LokL (e_stL (er_iconst (n := 3) (z := 3) (v := 3) (x_dk dn_0_6_ok 20 rfl) (by decide) (by decide))))
  (e_TokL
  (e_LokL (e_stL (er_iadd (x_dk dn_0_6_ok 21 rfl))))
  (e_LokL (Or.inr (Or.inr ⟨rfl, (x_dk dn_0_6_ok 22 rfl)⟩))))))
  (e_TokL
  (e_TokL
  (e_LokL (e_stL (er_aload_n (i := 0) (x_dk dn_0_6_ok 23 rfl))))
  (e_TokL
  (e_LokL (e_stL (er_iload_n (i := 3) (x_dk dn_0_6_ok 24 rfl))))
  (e_LokL (e_stL (er_iconst (n := 4) (z := 4) (v := 4) (x_dk dn_0_6_ok 25 rfl) (by decide) (by decide))))))
  (e_TokL
  (e_LokL (e_stL (er_iadd (x_dk dn_0_6_ok 26 rfl))))
  (e_TokL
  (e_LokL (Or.inr (Or.inr ⟨rfl, (x_dk dn_0_6_ok 27 rfl)⟩)))
  (e_LokL (e_stL (er_aload_n (i := 0) (x_dk dn_0_6_ok 28 rfl)))))))))
def te_0_629 (L : Nat) (xs : Nat → Int32) : Nat → eE := (e_T 976 (e_T 970 (e_T 965 (e_T 963 (e_L 963 (0, ei_load 3 0 964, 0, 0)) (e_T 964 (e_L 964 (0, ei_push (0, 5) 965, 0, 0)) (e_L 965 (0, ei_bin eF_add 966, 0, 0)))) (e_T 966 (e_L 966 (0, e_S (g_scd L xs 967), 0, 0)) (e_T 967 (e_L 967 (2, e_nof, 205, 6)) (e_L 970 (0, ei_stk ef_pop 971, 0, 0))))) (e_T 973 (e_T 971 (e_L 971 (0, ei_load 2 2 972, 0, 0)) (e_T 972 (e_L 972 (0, ei_load 0 2 973, 0, 0)) (e_L 973 (0, ei_load 3 0 974, 0, 0)))) (e_T 974 (e_L 974 (0, ei_push (0, 1) 975, 0, 0)) (e_T 975 (e_L 975 (0, ei_bin eF_add 976, 0, 0)) (e_L 976 (0, e_S (g_scd L xs 977), 0, 0)))))) (e_T 982 (e_T 979 (e_T 977 (e_L 977 (0, ei_load 0 2 978, 0, 0)) (e_T 978 (e_L 978 (0, ei_load 3 0 979, 0, 0)) (e_L 979 (0, ei_push (0, 2) 980, 0, 0)))) (e_T 980 (e_L 980 (0, ei_bin eF_add 981, 0, 0)) (e_T 981 (e_L 981 (0, e_S (g_scd L xs 982), 0, 0)) (e_L 982 (0, ei_load 0 2 983, 0, 0))))) (e_T 985 (e_T 983 (e_L 983 (0, ei_load 3 0 984, 0, 0)) (e_T 984 (e_L 984 (0, ei_push (0, 3) 985, 0, 0)) (e_L 985 (0, ei_bin eF_add 986, 0, 0)))) (e_T 986 (e_L 986 (0, e_S (g_scd L xs 987), 0, 0)) (e_T 987 (e_L 987 (0, ei_load 0 2 988, 0, 0)) (e_L 988 (0, ei_load 3 0 989, 0, 0)))))))
set_option maxRecDepth 20000 in
set_option maxHeartbeats 4000000 in
theorem te_0_629_ok (L : Nat) (xs : Nat → Int32) : ∀ pc, e_EOl L xs pc (te_0_629 L xs pc) :=
  (e_TokL
  (e_TokL
  (e_TokL
  (e_TokL
  (e_LokL (e_stL (er_iload_n (i := 3) (x_dk dn_0_6_ok 29 rfl))))
  (e_TokL
  (e_LokL (e_stL (er_iconst (n := 5) (z := 5) (v := 5) (x_dk dn_0_6_ok 30 rfl) (by decide) (by decide))))
  (e_LokL (e_stL (er_iadd (x_dk dn_0_6_ok 31 rfl))))))
  (e_TokL
  (e_LokL (Or.inr (Or.inr ⟨rfl, (x_dk dn_0_6_ok 32 rfl)⟩)))
  (e_TokL
  (e_LokL (e_caL (q' := n_205) rfl (xr_callV (q' := n_205) (ix := 79) (n := 5) (in_t5 (List.mem_of_getElem? (i := 38) rfl) rfl) good_w (in_t1 (List.mem_of_getElem? (i := 1) rfl) rfl) (in_t5 (List.mem_of_getElem? (i := 35) rfl) rfl) (in_t5 (List.mem_of_getElem? (i := 36) rfl) rfl) (in_t5 (List.mem_of_getElem? (i := 37) rfl) rfl) (by decide +kernel) (by decide +kernel) (by decide +kernel) (x_dk dn_0_6_ok 33 rfl))))
  (e_LokL (e_stL (er_pop (x_dk dn_0_6_ok 34 rfl)))))))
  (e_TokL
  (e_TokL
  (e_LokL (e_stL (er_aload_n (i := 2) (x_dk dn_0_6_ok 35 rfl))))
  (e_TokL
  (e_LokL (e_stL (er_aload_n (i := 0) (x_dk dn_0_6_ok 36 rfl))))
  (e_LokL (e_stL (er_iload_n (i := 3) (x_dk dn_0_6_ok 37 rfl))))))
  (e_TokL
  (e_LokL (e_stL (er_iconst (n := 1) (z := 1) (v := 1) (x_dk dn_0_6_ok 38 rfl) (by decide) (by decide))))
  (e_TokL
  (e_LokL (e_stL (er_iadd (x_dk dn_0_6_ok 39 rfl))))
  (e_LokL (Or.inr (Or.inr ⟨rfl, (x_dk dn_0_6_ok 40 rfl)⟩)))))))
  (e_TokL
  (e_TokL
  (e_TokL
  (e_LokL (e_stL (er_aload_n (i := 0) (x_dk dn_0_6_ok 41 rfl))))
  (e_TokL
  (e_LokL (e_stL (er_iload_n (i := 3) (x_dk dn_0_6_ok 42 rfl))))
  (e_LokL (e_stL (er_iconst (n := 2) (z := 2) (v := 2) (x_dk dn_0_6_ok 43 rfl) (by decide) (by decide))))))
  (e_TokL
  (e_LokL (e_stL (er_iadd (x_dk dn_0_6_ok 44 rfl))))
  (e_TokL
  (e_LokL (Or.inr (Or.inr ⟨rfl, (x_dk dn_0_6_ok 45 rfl)⟩)))
  (e_LokL (e_stL (er_aload_n (i := 0) (x_dk dn_0_6_ok 46 rfl)))))))
  (e_TokL
  (e_TokL
  (e_LokL (e_stL (er_iload_n (i := 3) (x_dk dn_0_6_ok 47 rfl))))
  (e_TokL
  (e_LokL (e_stL (er_iconst (n := 3) (z := 3) (v := 3) (x_dk dn_0_6_ok 48 rfl) (by decide) (by decide))))
  (e_LokL (e_stL (er_iadd (x_dk dn_0_6_ok 49 rfl))))))
  (e_TokL
  (e_LokL (Or.inr (Or.inr ⟨rfl, (x_dk dn_0_6_ok 50 rfl)⟩)))
  (e_TokL
  (e_LokL (e_stL (er_aload_n (i := 0) (x_dk dn_0_6_ok 51 rfl))))
  (e_LokL (e_stL (er_iload_n (i := 3) (x_dk dn_0_6_ok 52 rfl)))))))))
def te_0_653 (L : Nat) (xs : Nat → Int32) : Nat → eE := (e_T 1004 (e_T 994 (e_T 991 (e_T 989 (e_L 989 (0, ei_push (0, 4) 990, 0, 0)) (e_T 990 (e_L 990 (0, ei_bin eF_add 991, 0, 0)) (e_L 991 (0, e_S (g_scd L xs 992), 0, 0)))) (e_T 992 (e_L 992 (0, ei_load 0 2 993, 0, 0)) (e_T 993 (e_L 993 (0, ei_load 3 0 994, 0, 0)) (e_L 994 (0, ei_push (0, 5) 995, 0, 0))))) (e_T 997 (e_T 995 (e_L 995 (0, ei_bin eF_add 996, 0, 0)) (e_T 996 (e_L 996 (0, e_S (g_scd L xs 997), 0, 0)) (e_L 997 (2, e_nof, 291, 6)))) (e_T 1000 (e_L 1000 (0, ei_stk ef_pop 1001, 0, 0)) (e_T 1001 (e_L 1001 (0, ei_goto 2142, 0, 0)) (e_L 1004 (0, ei_load 1 2 1005, 0, 0)))))) (e_T 1010 (e_T 1007 (e_T 1005 (e_L 1005 (0, ei_load 0 2 1006, 0, 0)) (e_T 1006 (e_L 1006 (0, ei_load 3 0 1007, 0, 0)) (e_L 1007 (0, ei_push (0, 1) 1008, 0, 0)))) (e_T 1008 (e_L 1008 (0, ei_bin eF_add 1009, 0, 0)) (e_T 1009 (e_L 1009 (0, e_S (g_scd L xs 1010), 0, 0)) (e_L 1010 (0, ei_load 0 2 1011, 0, 0))))) (e_T 1013 (e_T 1011 (e_L 1011 (0, ei_load 3 0 1012, 0, 0)) (e_T 1012 (e_L 1012 (0, ei_push (0, 2) 1013, 0, 0)) (e_L 1013 (0, ei_bin eF_add 1014, 0, 0)))) (e_T 1015 (e_T 1014 (e_L 1014 (0, e_S (g_scd L xs 1015), 0, 0)) (e_L 1015 (2, e_nof, 206, 3))) (e_T 1018 (e_L 1018 (0, ei_stk ef_pop 1019, 0, 0)) (e_L 1019 (0, ei_load 2 2 1020, 0, 0)))))))
set_option maxRecDepth 20000 in
set_option maxHeartbeats 4000000 in
theorem te_0_653_ok (L : Nat) (xs : Nat → Int32) : ∀ pc, e_EOl L xs pc (te_0_653 L xs pc) :=
  (e_TokL
  (e_TokL
  (e_TokL
  (e_TokL
  (e_LokL (e_stL (er_iconst (n := 4) (z := 4) (v := 4) (x_dk dn_0_6_ok 53 rfl) (by decide) (by decide))))
  (e_TokL
  (e_LokL (e_stL (er_iadd (x_dk dn_0_6_ok 54 rfl))))
  (e_LokL (Or.inr (Or.inr ⟨rfl, (x_dk dn_0_6_ok 55 rfl)⟩)))))
  (e_TokL
  (e_LokL (e_stL (er_aload_n (i := 0) (x_dk dn_0_6_ok 56 rfl))))
  (e_TokL
  (e_LokL (e_stL (er_iload_n (i := 3) (x_dk dn_0_6_ok 57 rfl))))
  (e_LokL (e_stL (er_iconst (n := 5) (z := 5) (v := 5) (x_dk dn_0_6_ok 58 rfl) (by decide) (by decide)))))))
  (e_TokL
  (e_TokL
  (e_LokL (e_stL (er_iadd (x_dk dn_0_6_ok 59 rfl))))
  (e_TokL
  (e_LokL (Or.inr (Or.inr ⟨rfl, (x_dk dn_0_6_ok 60 rfl)⟩)))
  (e_LokL (e_caL (q' := n_291) rfl (xr_callV (q' := n_291) (ix := 82) (n := 5) (in_t11 (List.mem_of_getElem? (i := 104) rfl) rfl) good_w (in_t1 (List.mem_of_getElem? (i := 14) rfl) rfl) (in_t11 (List.mem_of_getElem? (i := 101) rfl) rfl) (in_t11 (List.mem_of_getElem? (i := 102) rfl) rfl) (in_t11 (List.mem_of_getElem? (i := 103) rfl) rfl) (by decide +kernel) (by decide +kernel) (by decide +kernel) (x_dk dn_0_6_ok 61 rfl))))))
  (e_TokL
  (e_LokL (e_stL (er_pop (x_dk dn_0_6_ok 62 rfl))))
  (e_TokL
  (e_LokL (e_stL (er_goto (off := 1141) (tg := 2142) (x_dk dn_0_6_ok 63 rfl) (by decide))))
  (e_LokL (e_stL (er_aload_n (i := 1) (x_dk dn_0_6_ok 64 rfl))))))))
  (e_TokL
  (e_TokL
  (e_TokL
  (e_LokL (e_stL (er_aload_n (i := 0) (x_dk dn_0_6_ok 65 rfl))))
  (e_TokL
  (e_LokL (e_stL (er_iload_n (i := 3) (x_dk dn_0_6_ok 66 rfl))))
  (e_LokL (e_stL (er_iconst (n := 1) (z := 1) (v := 1) (x_dk dn_0_6_ok 67 rfl) (by decide) (by decide))))))
  (e_TokL
  (e_LokL (e_stL (er_iadd (x_dk dn_0_6_ok 68 rfl))))
  (e_TokL
  (e_LokL (Or.inr (Or.inr ⟨rfl, (x_dk dn_0_6_ok 69 rfl)⟩)))
  (e_LokL (e_stL (er_aload_n (i := 0) (x_dk dn_0_6_ok 70 rfl)))))))
  (e_TokL
  (e_TokL
  (e_LokL (e_stL (er_iload_n (i := 3) (x_dk dn_0_6_ok 71 rfl))))
  (e_TokL
  (e_LokL (e_stL (er_iconst (n := 2) (z := 2) (v := 2) (x_dk dn_0_6_ok 72 rfl) (by decide) (by decide))))
  (e_LokL (e_stL (er_iadd (x_dk dn_0_6_ok 73 rfl))))))
  (e_TokL
  (e_TokL
  (e_LokL (Or.inr (Or.inr ⟨rfl, (x_dk dn_0_6_ok 74 rfl)⟩)))
  (e_LokL (e_caL (q' := n_206) rfl (xr_callV (q' := n_206) (ix := 83) (n := 2) (in_t5 (List.mem_of_getElem? (i := 46) rfl) rfl) good_w (in_t1 (List.mem_of_getElem? (i := 1) rfl) rfl) (in_t5 (List.mem_of_getElem? (i := 43) rfl) rfl) (in_t5 (List.mem_of_getElem? (i := 44) rfl) rfl) (in_t5 (List.mem_of_getElem? (i := 45) rfl) rfl) (by decide +kernel) (by decide +kernel) (by decide +kernel) (x_dk dn_0_6_ok 75 rfl)))))
  (e_TokL
  (e_LokL (e_stL (er_pop (x_dk dn_0_6_ok 76 rfl))))
  (e_LokL (e_stL (er_aload_n (i := 2) (x_dk dn_0_6_ok 77 rfl)))))))))
def te_0_678 (L : Nat) (xs : Nat → Int32) : Nat → eE := (e_T 1033 (e_T 1025 (e_T 1022 (e_T 1020 (e_L 1020 (0, ei_load 0 2 1021, 0, 0)) (e_T 1021 (e_L 1021 (0, ei_load 3 0 1022, 0, 0)) (e_L 1022 (0, ei_push (0, 1) 1023, 0, 0)))) (e_T 1023 (e_L 1023 (0, ei_bin eF_add 1024, 0, 0)) (e_T 1024 (e_L 1024 (0, e_S (g_scd L xs 1025), 0, 0)) (e_L 1025 (0, ei_load 0 2 1026, 0, 0))))) (e_T 1028 (e_T 1026 (e_L 1026 (0, ei_load 3 0 1027, 0, 0)) (e_T 1027 (e_L 1027 (0, ei_push (0, 2) 1028, 0, 0)) (e_L 1028 (0, ei_bin eF_add 1029, 0, 0)))) (e_T 1029 (e_L 1029 (0, e_S (g_scd L xs 1030), 0, 0)) (e_T 1030 (e_L 1030 (2, e_nof, 292, 3)) (e_L 1033 (0, ei_stk ef_pop 1034, 0, 0)))))) (e_T 1041 (e_T 1038 (e_T 1034 (e_L 1034 (0, ei_goto 2142, 0, 0)) (e_T 1037 (e_L 1037 (0, ei_load 1 2 1038, 0, 0)) (e_L 1038 (0, ei_load 0 2 1039, 0, 0)))) (e_T 1039 (e_L 1039 (0, ei_load 3 0 1040, 0, 0)) (e_T 1040 (e_L 1040 (0, ei_push (0, 1) 1041, 0, 0)) (e_L 1041 (0, ei_bin eF_add 1042, 0, 0))))) (e_T 1046 (e_T 1042 (e_L 1042 (0, e_S (g_scd L xs 1043), 0, 0)) (e_T 1043 (e_L 1043 (2, e_nof, 207, 2)) (e_L 1046 (0, ei_stk ef_pop 1047, 0, 0)))) (e_T 1047 (e_L 1047 (0, ei_load 2 2 1048, 0, 0)) (e_T 1048 (e_L 1048 (0, ei_load 0 2 1049, 0, 0)) (e_L 1049 (0, ei_load 3 0 1050, 0, 0)))))))
set_option maxRecDepth 20000 in
set_option maxHeartbeats 4000000 in
theorem te_0_678_ok (L : Nat) (xs : Nat → Int32) : ∀ pc, e_EOl L xs pc (te_0_678 L xs pc) :=
  (e_TokL
  (e_TokL
  (e_TokL
  (e_TokL
  (e_LokL (e_stL (er_aload_n (i := 0) (x_dk dn_0_6_ok 78 rfl))))
  (e_TokL
  (e_LokL (e_stL (er_iload_n (i := 3) (x_dk dn_0_6_ok 79 rfl))))
  (e_LokL (e_stL (er_iconst (n := 1) (z := 1) (v := 1) (x_dk dn_0_6_ok 80 rfl) (by decide) (by decide))))))
  (e_TokL
  (e_LokL (e_stL (er_iadd (x_dk dn_0_6_ok 81 rfl))))
  (e_TokL
  (e_LokL (Or.inr (Or.inr ⟨rfl, (x_dk dn_0_6_ok 82 rfl)⟩)))
  (e_LokL (e_stL (er_aload_n (i := 0) (x_dk dn_0_6_ok 83 rfl)))))))
  (e_TokL
  (e_TokL
  (e_LokL (e_stL (er_iload_n (i := 3) (x_dk dn_0_6_ok 84 rfl))))
  (e_TokL
  (e_LokL (e_stL (er_iconst (n := 2) (z := 2) (v := 2) (x_dk dn_0_6_ok 85 rfl) (by decide) (by decide))))
  (e_LokL (e_stL (er_iadd (x_dk dn_0_6_ok 86 rfl))))))
  (e_TokL
  (e_LokL (Or.inr (Or.inr ⟨rfl, (x_dk dn_0_6_ok 87 rfl)⟩)))
  (e_TokL
  (e_LokL (e_caL (q' := n_292) rfl (xr_callV (q' := n_292) (ix := 86) (n := 2) (in_t11 (List.mem_of_getElem? (i := 108) rfl) rfl) good_w (in_t1 (List.mem_of_getElem? (i := 14) rfl) rfl) (in_t11 (List.mem_of_getElem? (i := 105) rfl) rfl) (in_t11 (List.mem_of_getElem? (i := 106) rfl) rfl) (in_t11 (List.mem_of_getElem? (i := 107) rfl) rfl) (by decide +kernel) (by decide +kernel) (by decide +kernel) (x_dk dn_0_6_ok 88 rfl))))
  (e_LokL (e_stL (er_pop (x_dk dn_0_6_ok 89 rfl))))))))
  (e_TokL
  (e_TokL
  (e_TokL
  (e_LokL (e_stL (er_goto (off := 1108) (tg := 2142) (x_dk dn_0_6_ok 90 rfl) (by decide))))
  (e_TokL
  (e_LokL (e_stL (er_aload_n (i := 1) (x_dk dn_0_6_ok 91 rfl))))
  (e_LokL (e_stL (er_aload_n (i := 0) (x_dk dn_0_6_ok 92 rfl))))))
  (e_TokL
  (e_LokL (e_stL (er_iload_n (i := 3) (x_dk dn_0_6_ok 93 rfl))))
  (e_TokL
  (e_LokL (e_stL (er_iconst (n := 1) (z := 1) (v := 1) (x_dk dn_0_6_ok 94 rfl) (by decide) (by decide))))
  (e_LokL (e_stL (er_iadd (x_dk dn_0_6_ok 95 rfl)))))))
  (e_TokL
  (e_TokL
  (e_LokL (Or.inr (Or.inr ⟨rfl, (x_dk dn_0_6_ok 96 rfl)⟩)))
  (e_TokL
  (e_LokL (e_caL (q' := n_207) rfl (xr_callV (q' := n_207) (ix := 87) (n := 1) (in_t5 (List.mem_of_getElem? (i := 50) rfl) rfl) good_w (in_t1 (List.mem_of_getElem? (i := 1) rfl) rfl) (in_t5 (List.mem_of_getElem? (i := 47) rfl) rfl) (in_t5 (List.mem_of_getElem? (i := 48) rfl) rfl) (in_t5 (List.mem_of_getElem? (i := 49) rfl) rfl) (by decide +kernel) (by decide +kernel) (by decide +kernel) (x_dk dn_0_6_ok 97 rfl))))
  (e_LokL (e_stL (er_pop (x_dk dn_0_6_ok 98 rfl))))))
  (e_TokL
  (e_LokL (e_stL (er_aload_n (i := 2) (x_dk dn_0_6_ok 99 rfl))))
  (e_TokL
  (e_LokL (e_stL (er_aload_n (i := 0) (x_dk dn_0_7_ok 0 rfl))))
  (e_LokL (e_stL (er_iload_n (i := 3) (x_dk dn_0_7_ok 1 rfl)))))))))
def te_0_702 (L : Nat) (xs : Nat → Int32) : Nat → eE := (e_T 1065 (e_T 1057 (e_T 1052 (e_T 1050 (e_L 1050 (0, ei_push (0, 1) 1051, 0, 0)) (e_T 1051 (e_L 1051 (0, ei_bin eF_add 1052, 0, 0)) (e_L 1052 (0, e_S (g_scd L xs 1053), 0, 0)))) (e_T 1053 (e_L 1053 (2, e_nof, 293, 2)) (e_T 1056 (e_L 1056 (0, ei_stk ef_pop 1057, 0, 0)) (e_L 1057 (0, ei_goto 2142, 0, 0))))) (e_T 1062 (e_T 1060 (e_L 1060 (0, ei_load 1 2 1061, 0, 0)) (e_T 1061 (e_L 1061 (0, ei_load 0 2 1062, 0, 0)) (e_L 1062 (0, ei_load 3 0 1063, 0, 0)))) (e_T 1063 (e_L 1063 (0, ei_push (0, 1) 1064, 0, 0)) (e_T 1064 (e_L 1064 (0, ei_bin eF_add 1065, 0, 0)) (e_L 1065 (0, e_S (g_scd L xs 1066), 0, 0)))))) (e_T 1071 (e_T 1068 (e_T 1066 (e_L 1066 (0, ei_load 0 2 1067, 0, 0)) (e_T 1067 (e_L 1067 (0, ei_load 3 0 1068, 0, 0)) (e_L 1068 (0, ei_push (0, 2) 1069, 0, 0)))) (e_T 1069 (e_L 1069 (0, ei_bin eF_add 1070, 0, 0)) (e_T 1070 (e_L 1070 (0, e_S (g_scd L xs 1071), 0, 0)) (e_L 1071 (0, ei_if1 0 1078 1074, 0, 0))))) (e_T 1078 (e_T 1074 (e_L 1074 (0, ei_push (0, 1) 1075, 0, 0)) (e_T 1075 (e_L 1075 (0, ei_goto 1079, 0, 0)) (e_L 1078 (0, ei_push (0, 0) 1079, 0, 0)))) (e_T 1079 (e_L 1079 (2, e_nof, 208, 3)) (e_T 1082 (e_L 1082 (0, ei_stk ef_pop 1083, 0, 0)) (e_L 1083 (0, ei_load 2 2 1084, 0, 0)))))))
set_option maxRecDepth 20000 in
set_option maxHeartbeats 4000000 in
theorem te_0_702_ok (L : Nat) (xs : Nat → Int32) : ∀ pc, e_EOl L xs pc (te_0_702 L xs pc) :=
  (e_TokL
  (e_TokL
  (e_TokL
  (e_TokL
  (e_LokL (e_stL (er_iconst (n := 1) (z := 1) (v := 1) (x_dk dn_0_7_ok 2 rfl) (by decide) (by decide))))
  (e_TokL
  (e_LokL (e_stL (er_iadd (x_dk dn_0_7_ok 3 rfl))))
  (e_LokL (Or.inr (Or.inr ⟨rfl, (x_dk dn_0_7_ok 4 rfl)⟩)))))
  (e_TokL
  (e_LokL (e_caL (q' := n_293) rfl (xr_callV (q' := n_293) (ix := 90) (n := 1) (in_t11 (List.mem_of_getElem? (i := 114) rfl) rfl) good_w (in_t1 (List.mem_of_getElem? (i := 14) rfl) rfl) (in_t11 (List.mem_of_getElem? (i := 111) rfl) rfl) (in_t11 (List.mem_of_getElem? (i := 112) rfl) rfl) (in_t11 (List.mem_of_getElem? (i := 113) rfl) rfl) (by decide +kernel) (by decide +kernel) (by decide +kernel) (x_dk dn_0_7_ok 5 rfl))))
  (e_TokL
  (e_LokL (e_stL (er_pop (x_dk dn_0_7_ok 6 rfl))))
  (e_LokL (e_stL (er_goto (off := 1085) (tg := 2142) (x_dk dn_0_7_ok 7 rfl) (by decide)))))))
  (e_TokL
  (e_TokL
  (e_LokL (e_stL (er_aload_n (i := 1) (x_dk dn_0_7_ok 8 rfl))))
  (e_TokL
  (e_LokL (e_stL (er_aload_n (i := 0) (x_dk dn_0_7_ok 9 rfl))))
  (e_LokL (e_stL (er_iload_n (i := 3) (x_dk dn_0_7_ok 10 rfl))))))
  (e_TokL
  (e_LokL (e_stL (er_iconst (n := 1) (z := 1) (v := 1) (x_dk dn_0_7_ok 11 rfl) (by decide) (by decide))))
  (e_TokL
  (e_LokL (e_stL (er_iadd (x_dk dn_0_7_ok 12 rfl))))
  (e_LokL (Or.inr (Or.inr ⟨rfl, (x_dk dn_0_7_ok 13 rfl)⟩)))))))
  (e_TokL
  (e_TokL
  (e_TokL
  (e_LokL (e_stL (er_aload_n (i := 0) (x_dk dn_0_7_ok 14 rfl))))
  (e_TokL
  (e_LokL (e_stL (er_iload_n (i := 3) (x_dk dn_0_7_ok 15 rfl))))
  (e_LokL (e_stL (er_iconst (n := 2) (z := 2) (v := 2) (x_dk dn_0_7_ok 16 rfl) (by decide) (by decide))))))
  (e_TokL
  (e_LokL (e_stL (er_iadd (x_dk dn_0_7_ok 17 rfl))))
  (e_TokL
  (e_LokL (Or.inr (Or.inr ⟨rfl, (x_dk dn_0_7_ok 18 rfl)⟩)))
  (e_LokL (e_stL (er_ifeq (off := 7) (tg := 1078) (x_dk dn_0_7_ok 19 rfl) (by decide)))))))
  (e_TokL
  (e_TokL
  (e_LokL (e_stL (er_iconst (n := 1) (z := 1) (v := 1) (x_dk dn_0_7_ok 20 rfl) (by decide) (by decide))))
  (e_TokL
  (e_LokL (e_stL (er_goto (off := 4) (tg := 1079) (x_dk dn_0_7_ok 21 rfl) (by decide))))
  (e_LokL (e_stL (er_iconst (n := 0) (z := 0) (v := 0) (x_dk dn_0_7_ok 22 rfl) (by decide) (by decide))))))
  (e_TokL
  (e_LokL (e_caL (q' := n_208) rfl (xr_callV (q' := n_208) (ix := 91) (n := 2) (in_t5 (List.mem_of_getElem? (i := 54) rfl) rfl) good_w (in_t1 (List.mem_of_getElem? (i := 1) rfl) rfl) (in_t5 (List.mem_of_getElem? (i := 51) rfl) rfl) (in_t5 (List.mem_of_getElem? (i := 52) rfl) rfl) (in_t5 (List.mem_of_getElem? (i := 53) rfl) rfl) (by decide +kernel) (by decide +kernel) (by decide +kernel) (x_dk dn_0_7_ok 23 rfl))))
  (e_TokL
  (e_LokL (e_stL (er_pop (x_dk dn_0_7_ok 24 rfl))))
  (e_LokL (e_stL (er_aload_n (i := 2) (x_dk dn_0_7_ok 25 rfl)))))))))
def te_0_726 (L : Nat) (xs : Nat → Int32) : Nat → eE := (e_T 1097 (e_T 1089 (e_T 1086 (e_T 1084 (e_L 1084 (0, ei_load 0 2 1085, 0, 0)) (e_T 1085 (e_L 1085 (0, ei_load 3 0 1086, 0, 0)) (e_L 1086 (0, ei_push (0, 1) 1087, 0, 0)))) (e_T 1087 (e_L 1087 (0, ei_bin eF_add 1088, 0, 0)) (e_T 1088 (e_L 1088 (0, e_S (g_scd L xs 1089), 0, 0)) (e_L 1089 (0, ei_load 0 2 1090, 0, 0))))) (e_T 1092 (e_T 1090 (e_L 1090 (0, ei_load 3 0 1091, 0, 0)) (e_T 1091 (e_L 1091 (0, ei_push (0, 2) 1092, 0, 0)) (e_L 1092 (0, ei_bin eF_add 1093, 0, 0)))) (e_T 1093 (e_L 1093 (0, e_S (g_scd L xs 1094), 0, 0)) (e_T 1094 (e_L 1094 (0, ei_if1 0 1101 1097, 0, 0)) (e_L 1097 (0, ei_push (0, 1) 1098, 0, 0)))))) (e_T 1109 (e_T 1102 (e_T 1098 (e_L 1098 (0, ei_goto 1102, 0, 0)) (e_T 1101 (e_L 1101 (0, ei_push (0, 0) 1102, 0, 0)) (e_L 1102 (2, e_nof, 294, 3)))) (e_T 1105 (e_L 1105 (0, ei_stk ef_pop 1106, 0, 0)) (e_T 1106 (e_L 1106 (0, ei_goto 2142, 0, 0)) (e_L 1109 (0, ei_load 1 2 1110, 0, 0))))) (e_T 1112 (e_T 1110 (e_L 1110 (0, ei_load 0 2 1111, 0, 0)) (e_T 1111 (e_L 1111 (0, ei_load 3 0 1112, 0, 0)) (e_L 1112 (0, ei_push (0, 1) 1113, 0, 0)))) (e_T 1113 (e_L 1113 (0, ei_bin eF_add 1114, 0, 0)) (e_T 1114 (e_L 1114 (0, e_S (g_scd L xs 1115), 0, 0)) (e_L 1115 (0, ei_load 0 2 1116, 0, 0)))))))
set_option maxRecDepth 20000 in
set_option maxHeartbeats 4000000 in
theorem te_0_726_ok (L : Nat) (xs : Nat → Int32) : ∀ pc, e_EOl L xs pc (te_0_726 L xs pc) :=
  (e_TokL
  (e_TokL
  (e_TokL
  (e_TokL
  (e_LokL (e_stL (er_aload_n (i := 0) (x_dk dn_0_7_ok 26 rfl))))
  (e_TokL
  (e_LokL (e_stL (er_iload_n (i := 3) (x_dk dn_0_7_ok 27 rfl))))
  (e_LokL (e_stL (er_iconst (n := 1) (z := 1) (v := 1) (x_dk dn_0_7_ok 28 rfl) (by decide) (by decide))))))
  (e_TokL
  (e_LokL (e_stL (er_iadd (x_dk dn_0_7_ok 29 rfl))))
  (e_TokL
  (e_LokL (Or.inr (Or.inr ⟨rfl, (x_dk dn_0_7_ok 30 rfl)⟩)))
  (e_LokL (e_stL (er_aload_n (i := 0) (x_dk dn_0_7_ok 31 rfl)))))))
  (e_TokL
  (e_TokL
  (e_LokL (e_stL (er_iload_n (i := 3) (x_dk dn_0_7_ok 32 rfl))))
  (e_TokL
  (e_LokL (e_stL (er_iconst (n := 2) (z := 2) (v := 2) (x_dk dn_0_7_ok 33 rfl) (by decide) (by decide))))
  (e_LokL (e_stL (er_iadd (x_dk dn_0_7_ok 34 rfl))))))
  (e_TokL
  (e_LokL (Or.inr (Or.inr ⟨rfl, (x_dk dn_0_7_ok 35 rfl)⟩)))
  (e_TokL
  (e_LokL (e_stL (er_ifeq (off := 7) (tg := 1101) (x_dk dn_0_7_ok 36 rfl) (by decide))))
  (e_LokL (e_stL (er_iconst (n := 1) (z := 1) (v := 1) (x_dk dn_0_7_ok 37 rfl) (by decide) (by decide))))))))
  (e_TokL
  (e_TokL
  (e_TokL
  (e_LokL (e_stL (er_goto (off := 4) (tg := 1102) (x_dk dn_0_7_ok 38 rfl) (by decide))))
  (e_TokL
  (e_LokL (e_stL (er_iconst (n := 0) (z := 0) (v := 0) (x_dk dn_0_7_ok 39 rfl) (by decide) (by decide))))
  (e_LokL (e_caL (q' := n_294) rfl (xr_callV (q' := n_294) (ix := 95) (n := 2) (in_t11 (List.mem_of_getElem? (i := 119) rfl) rfl) good_w (in_t1 (List.mem_of_getElem? (i := 14) rfl) rfl) (in_t11 (List.mem_of_getElem? (i := 116) rfl) rfl) (in_t11 (List.mem_of_getElem? (i := 117) rfl) rfl) (in_t11 (List.mem_of_getElem? (i := 118) rfl) rfl) (by decide +kernel) (by decide +kernel) (by decide +kernel) (x_dk dn_0_7_ok 40 rfl))))))
  (e_TokL
  (e_LokL (e_stL (er_pop (x_dk dn_0_7_ok 41 rfl))))
  (e_TokL
  (e_LokL (e_stL (er_goto (off := 1036) (tg := 2142) (x_dk dn_0_7_ok 42 rfl) (by decide))))
  (e_LokL (e_stL (er_aload_n (i := 1) (x_dk dn_0_7_ok 43 rfl)))))))
  (e_TokL
  (e_TokL
  (e_LokL (e_stL (er_aload_n (i := 0) (x_dk dn_0_7_ok 44 rfl))))
  (e_TokL
  (e_LokL (e_stL (er_iload_n (i := 3) (x_dk dn_0_7_ok 45 rfl))))
  (e_LokL (e_stL (er_iconst (n := 1) (z := 1) (v := 1) (x_dk dn_0_7_ok 46 rfl) (by decide) (by decide))))))
  (e_TokL
  (e_LokL (e_stL (er_iadd (x_dk dn_0_7_ok 47 rfl))))
  (e_TokL
  (e_LokL (Or.inr (Or.inr ⟨rfl, (x_dk dn_0_7_ok 48 rfl)⟩)))
  (e_LokL (e_stL (er_aload_n (i := 0) (x_dk dn_0_7_ok 49 rfl)))))))))
def te_0_750 (L : Nat) (xs : Nat → Int32) : Nat → eE := (e_T 1129 (e_T 1121 (e_T 1118 (e_T 1116 (e_L 1116 (0, ei_load 3 0 1117, 0, 0)) (e_T 1117 (e_L 1117 (0, ei_push (0, 2) 1118, 0, 0)) (e_L 1118 (0, ei_bin eF_add 1119, 0, 0)))) (e_T 1119 (e_L 1119 (0, e_S (g_scd L xs 1120), 0, 0)) (e_T 1120 (e_L 1120 (0, ei_load 0 2 1121, 0, 0)) (e_L 1121 (0, ei_load 3 0 1122, 0, 0))))) (e_T 1124 (e_T 1122 (e_L 1122 (0, ei_push (0, 3) 1123, 0, 0)) (e_T 1123 (e_L 1123 (0, ei_bin eF_add 1124, 0, 0)) (e_L 1124 (0, e_S (g_scd L xs 1125), 0, 0)))) (e_T 1125 (e_L 1125 (0, ei_if1 0 1132 1128, 0, 0)) (e_T 1128 (e_L 1128 (0, ei_push (0, 1) 1129, 0, 0)) (e_L 1129 (0, ei_goto 1133, 0, 0)))))) (e_T 1139 (e_T 1136 (e_T 1132 (e_L 1132 (0, ei_push (0, 0) 1133, 0, 0)) (e_T 1133 (e_L 1133 (2, e_nof, 209, 4)) (e_L 1136 (0, ei_stk ef_pop 1137, 0, 0)))) (e_T 1137 (e_L 1137 (0, ei_load 2 2 1138, 0, 0)) (e_T 1138 (e_L 1138 (0, ei_load 0 2 1139, 0, 0)) (e_L 1139 (0, ei_load 3 0 1140, 0, 0))))) (e_T 1142 (e_T 1140 (e_L 1140 (0, ei_push (0, 1) 1141, 0, 0)) (e_T 1141 (e_L 1141 (0, ei_bin eF_add 1142, 0, 0)) (e_L 1142 (0, e_S (g_scd L xs 1143), 0, 0)))) (e_T 1144 (e_T 1143 (e_L 1143 (0, ei_load 0 2 1144, 0, 0)) (e_L 1144 (0, ei_load 3 0 1145, 0, 0))) (e_T 1145 (e_L 1145 (0, ei_push (0, 2) 1146, 0, 0)) (e_L 1146 (0, ei_bin eF_add 1147, 0, 0)))))))
set_option maxRecDepth 20000 in
set_option maxHeartbeats 4000000 in
theorem te_0_750_ok (L : Nat) (xs : Nat → Int32) : ∀ pc, e_EOl L xs pc (te_0_750 L xs pc) :=
  (e_TokL
  (e_TokL
  (e_TokL
  (e_TokL
  (e_LokL (e_stL (er_iload_n (i := 3) (x_dk dn_0_7_ok 50 rfl))))
  (e_TokL
  (e_LokL (e_stL (er_iconst (n := 2) (z := 2) (v := 2) (x_dk dn_0_7_ok 51 rfl) (by decide) (by decide))))
  (e_LokL (e_stL (er_iadd (x_dk dn_0_7_ok 52 rfl))))))
  (e_TokL
  (e_LokL (Or.inr (Or.inr ⟨rfl, (x_dk dn_0_7_ok 53 rfl)⟩)))
  (e_TokL
  (e_LokL (e_stL (er_aload_n (i := 0) (x_dk dn_0_7_ok 54 rfl))))
  (e_LokL (e_stL (er_iload_n (i := 3) (x_dk dn_0_7_ok 55 rfl)))))))
  (e_TokL
  (e_TokL
  (e_LokL (e_stL (er_iconst (n := 3) (z := 3) (v := 3) (x_dk dn_0_7_ok 56 rfl) (by decide) (by decide))))
  (e_TokL
  (e_LokL (e_stL (er_iadd (x_dk dn_0_7_ok 57 rfl))))
  (e_LokL (Or.inr (Or.inr ⟨rfl, (x_dk dn_0_7_ok 58 rfl)⟩)))))
  (e_TokL
  (e_LokL (e_stL (er_ifeq (off := 7) (tg := 1132) (x_dk dn_0_7_ok 59 rfl) (by decide))))
  (e_TokL
  (e_LokL (e_stL (er_iconst (n := 1) (z := 1) (v := 1) (x_dk dn_0_7_ok 60 rfl) (by decide) (by decide))))
  (e_LokL (e_stL (er_goto (off := 4) (tg := 1133) (x_dk dn_0_7_ok 61 rfl) (by decide))))))))
  (e_TokL
  (e_TokL
  (e_TokL
  (e_LokL (e_stL (er_iconst (n := 0) (z := 0) (v := 0) (x_dk dn_0_7_ok 62 rfl) (by decide) (by decide))))
  (e_TokL
  (e_LokL (e_caL (q' := n_209) rfl (xr_callV (q' := n_209) (ix := 96) (n := 3) (in_t5 (List.mem_of_getElem? (i := 58) rfl) rfl) good_w (in_t1 (List.mem_of_getElem? (i := 1) rfl) rfl) (in_t5 (List.mem_of_getElem? (i := 55) rfl) rfl) (in_t5 (List.mem_of_getElem? (i := 56) rfl) rfl) (in_t5 (List.mem_of_getElem? (i := 57) rfl) rfl) (by decide +kernel) (by decide +kernel) (by decide +kernel) (x_dk dn_0_7_ok 63 rfl))))
  (e_LokL (e_stL (er_pop (x_dk dn_0_7_ok 64 rfl))))))
  (e_TokL
  (e_LokL (e_stL (er_aload_n (i := 2) (x_dk dn_0_7_ok 65 rfl))))
  (e_TokL
  (e_LokL (e_stL (er_aload_n (i := 0) (x_dk dn_0_7_ok 66 rfl))))
  (e_LokL (e_stL (er_iload_n (i := 3) (x_dk dn_0_7_ok 67 rfl)))))))
  (e_TokL
  (e_TokL
  (e_LokL (e_stL (er_iconst (n := 1) (z := 1) (v := 1) (x_dk dn_0_7_ok 68 rfl) (by decide) (by decide))))
  (e_TokL
  (e_LokL (e_stL (er_iadd (x_dk dn_0_7_ok 69 rfl))))
  (e_LokL (Or.inr (Or.inr ⟨rfl, (x_dk dn_0_7_ok 70 rfl)⟩)))))
  (e_TokL
  (e_TokL
  (e_LokL (e_stL (er_aload_n (i := 0) (x_dk dn_0_7_ok 71 rfl))))
  (e_LokL (e_stL (er_iload_n (i := 3) (x_dk dn_0_7_ok 72 rfl)))))
  (e_TokL
  (e_LokL (e_stL (er_iconst (n := 2) (z := 2) (v := 2) (x_dk dn_0_7_ok 73 rfl) (by decide) (by decide))))
  (e_LokL (e_stL (er_iadd (x_dk dn_0_7_ok 74 rfl)))))))))
end
