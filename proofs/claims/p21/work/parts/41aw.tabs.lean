noncomputable section
theorem ho_312 : (xm_y n_312).cls = "RobotCellHouseModel" := rfl
def dn_312_0_0 : List (Nat × Instr × Nat) := [(0, .aload_n 0, 1), (1, .aload_n 1, 1), (2, .aload_n 0, 1), (3, .getfield 149, 3), (6, .aload_n 0, 1), (7, .getfield 404, 3), (10, .iaload, 1), (11, .aload_n 0, 1), (12, .getfield 152, 3), (15, .aload_n 0, 1), (16, .getfield 404, 3), (19, .iaload, 1), (20, .aload_n 0, 1), (21, .getfield 149, 3), (24, .aload_n 0, 1), (25, .getfield 407, 3), (28, .iaload, 1), (29, .aload_n 0, 1), (30, .getfield 152, 3), (33, .aload_n 0, 1), (34, .getfield 407, 3), (37, .iaload, 1), (38, .invokevirtual 428, 3), (41, .return_, 1)]
set_option maxRecDepth 20000 in
theorem dn_312_0_0_ok : dn_312_0_0.all (fun q => decide (decode (xm_b n_312) q.1 = .ok (q.2.1, q.2.2))) = true := xa_g_ok (by decide +kernel)
def te_312_0 : Nat → eE := (e_T 19 (e_T 7 (e_T 2 (e_T 0 (e_L 0 (0, ei_load 0 2 1, 0, 0)) (e_T 1 (e_L 1 (0, ei_load 1 2 2, 0, 0)) (e_L 2 (0, ei_load 0 2 3, 0, 0)))) (e_T 3 (e_L 3 (0, ei_getf eft elay 12 55 6, 0, 0)) (e_T 6 (e_L 6 (0, ei_load 0 2 7, 0, 0)) (e_L 7 (0, ei_getf eft elay 12 58 10, 0, 0))))) (e_T 12 (e_T 10 (e_L 10 (0, ei_ald elay false 11, 0, 0)) (e_T 11 (e_L 11 (0, ei_load 0 2 12, 0, 0)) (e_L 12 (0, ei_getf eft elay 12 56 15, 0, 0)))) (e_T 15 (e_L 15 (0, ei_load 0 2 16, 0, 0)) (e_T 16 (e_L 16 (0, ei_getf eft elay 12 58 19, 0, 0)) (e_L 19 (0, ei_ald elay false 20, 0, 0)))))) (e_T 29 (e_T 24 (e_T 20 (e_L 20 (0, ei_load 0 2 21, 0, 0)) (e_T 21 (e_L 21 (0, ei_getf eft elay 12 55 24, 0, 0)) (e_L 24 (0, ei_load 0 2 25, 0, 0)))) (e_T 25 (e_L 25 (0, ei_getf eft elay 12 59 28, 0, 0)) (e_T 28 (e_L 28 (0, ei_ald elay false 29, 0, 0)) (e_L 29 (0, ei_load 0 2 30, 0, 0))))) (e_T 34 (e_T 30 (e_L 30 (0, ei_getf eft elay 12 56 33, 0, 0)) (e_T 33 (e_L 33 (0, ei_load 0 2 34, 0, 0)) (e_L 34 (0, ei_getf eft elay 12 59 37, 0, 0)))) (e_T 37 (e_L 37 (0, ei_ald elay false 38, 0, 0)) (e_T 38 (e_L 38 (2, e_nof, 311, 6)) (e_L 41 (1, e_nof, 0, 0)))))))
set_option maxRecDepth 20000 in
set_option maxHeartbeats 4000000 in
theorem te_312_0_ok : ∀ pc, e_EOq eft cls elay eI n_312 pc (te_312_0 pc) :=
  (e_Tok2
  (e_Tok2
  (e_Tok2
  (e_Tok2
  (e_Lok (ld_aload_n_0 (x_dk dn_312_0_0_ok 0 rfl)))
  (e_Tok2
  (e_Lok (ld_aload_n_1 (x_dk dn_312_0_0_ok 1 rfl)))
  (e_Lok (ld_aload_n_0 (x_dk dn_312_0_0_ok 2 rfl)))))
  (e_Tok2
  (e_Lok (lk_12_149g ho_312 (x_dk dn_312_0_0_ok 3 rfl)))
  (e_Tok2
  (e_Lok (ld_aload_n_0 (x_dk dn_312_0_0_ok 4 rfl)))
  (e_Lok (lk_12_404g ho_312 (x_dk dn_312_0_0_ok 5 rfl))))))
  (e_Tok2
  (e_Tok2
  (e_Lok (sm_iaload (x_dk dn_312_0_0_ok 6 rfl)))
  (e_Tok2
  (e_Lok (ld_aload_n_0 (x_dk dn_312_0_0_ok 7 rfl)))
  (e_Lok (lk_12_152g ho_312 (x_dk dn_312_0_0_ok 8 rfl)))))
  (e_Tok2
  (e_Lok (ld_aload_n_0 (x_dk dn_312_0_0_ok 9 rfl)))
  (e_Tok2
  (e_Lok (lk_12_404g ho_312 (x_dk dn_312_0_0_ok 10 rfl)))
  (e_Lok (sm_iaload (x_dk dn_312_0_0_ok 11 rfl)))))))
  (e_Tok2
  (e_Tok2
  (e_Tok2
  (e_Lok (ld_aload_n_0 (x_dk dn_312_0_0_ok 12 rfl)))
  (e_Tok2
  (e_Lok (lk_12_149g ho_312 (x_dk dn_312_0_0_ok 13 rfl)))
  (e_Lok (ld_aload_n_0 (x_dk dn_312_0_0_ok 14 rfl)))))
  (e_Tok2
  (e_Lok (lk_12_407g ho_312 (x_dk dn_312_0_0_ok 15 rfl)))
  (e_Tok2
  (e_Lok (sm_iaload (x_dk dn_312_0_0_ok 16 rfl)))
  (e_Lok (ld_aload_n_0 (x_dk dn_312_0_0_ok 17 rfl))))))
  (e_Tok2
  (e_Tok2
  (e_Lok (lk_12_152g ho_312 (x_dk dn_312_0_0_ok 18 rfl)))
  (e_Tok2
  (e_Lok (ld_aload_n_0 (x_dk dn_312_0_0_ok 19 rfl)))
  (e_Lok (lk_12_407g ho_312 (x_dk dn_312_0_0_ok 20 rfl)))))
  (e_Tok2
  (e_Lok (sm_iaload (x_dk dn_312_0_0_ok 21 rfl)))
  (e_Tok2
  (e_Lok (lk_12_428 ho_312 (x_dk dn_312_0_0_ok 22 rfl)))
  (e_Lok (e_rt (I := eI) (k := 0) ⟨(x_dk dn_312_0_0_ok 23 rfl), rfl⟩)))))))
def te_312 : Nat → eE := te_312_0
theorem te_312_ok : ∀ pc, e_EOq eft cls elay eI n_312 pc (te_312 pc) := te_312_0_ok
theorem ho_313 : (xm_y n_313).cls = "RobotCellHouseModel" := rfl
def dn_313_0_0 : List (Nat × Instr × Nat) := [(0, .aload_n 0, 1), (1, .iload_n 1, 1), (2, .iload_n 2, 1), (3, .iload_n 3, 1), (4, .invokevirtual 432, 3), (7, .aload_n 0, 1), (8, .aload_n 0, 1), (9, .getfield 158, 3), (12, .invokevirtual 435, 3), (15, .aload_n 0, 1), (16, .getfield 410, 3), (19, .istore 8, 2), (21, .aload_n 0, 1), (22, .iload 4, 2), (24, .iload 5, 2), (26, .iload 6, 2), (28, .invokevirtual 432, 3), (31, .aload_n 0, 1), (32, .aload_n 0, 1), (33, .getfield 161, 3), (36, .invokevirtual 435, 3), (39, .aload_n 0, 1), (40, .getfield 158, 3), (43, .aload_n 0, 1), (44, .getfield 161, 3)]
set_option maxRecDepth 20000 in
theorem dn_313_0_0_ok : dn_313_0_0.all (fun q => decide (decode (xm_b n_313) q.1 = .ok (q.2.1, q.2.2))) = true := xa_g_ok (by decide +kernel)
def dn_313_0_1 : List (Nat × Instr × Nat) := [(47, .iload 8, 2), (49, .aload_n 0, 1), (50, .getfield 410, 3), (53, .iadd, 1), (54, .iload 7, 2), (56, .iadd, 1), (57, .i2l, 1), (58, .invokestatic 439, 3), (61, .ireturn, 1)]
set_option maxRecDepth 20000 in
theorem dn_313_0_1_ok : dn_313_0_1.all (fun q => decide (decode (xm_b n_313) q.1 = .ok (q.2.1, q.2.2))) = true := xa_g_ok (by decide +kernel)
def te_313_0 : Nat → eE := (e_T 28 (e_T 9 (e_T 3 (e_T 1 (e_T 0 (e_L 0 (0, ei_load 0 2 1, 0, 0)) (e_L 1 (0, ei_load 1 0 2, 0, 0))) (e_T 2 (e_L 2 (0, ei_load 2 0 3, 0, 0)) (e_L 3 (0, ei_load 3 0 4, 0, 0)))) (e_T 7 (e_T 4 (e_L 4 (2, e_nof, 305, 4)) (e_L 7 (0, ei_load 0 2 8, 0, 0))) (e_T 8 (e_L 8 (0, ei_load 0 2 9, 0, 0)) (e_L 9 (0, ei_getf eft elay 12 61 12, 0, 0))))) (e_T 19 (e_T 15 (e_T 12 (e_L 12 (2, e_nof, 312, 2)) (e_L 15 (0, ei_load 0 2 16, 0, 0))) (e_T 16 (e_L 16 (0, ei_getf eft elay 12 60 19, 0, 0)) (e_L 19 (0, ei_stor 8 0 21, 0, 0)))) (e_T 22 (e_T 21 (e_L 21 (0, ei_load 0 2 22, 0, 0)) (e_L 22 (0, ei_load 4 0 24, 0, 0))) (e_T 24 (e_L 24 (0, ei_load 5 0 26, 0, 0)) (e_T 26 (e_L 26 (0, ei_load 6 0 28, 0, 0)) (e_L 28 (2, e_nof, 305, 4))))))) (e_T 44 (e_T 36 (e_T 32 (e_T 31 (e_L 31 (0, ei_load 0 2 32, 0, 0)) (e_L 32 (0, ei_load 0 2 33, 0, 0))) (e_T 33 (e_L 33 (0, ei_getf eft elay 12 62 36, 0, 0)) (e_L 36 (2, e_nof, 312, 2)))) (e_T 40 (e_T 39 (e_L 39 (0, ei_load 0 2 40, 0, 0)) (e_L 40 (0, ei_getf eft elay 12 61 43, 0, 0))) (e_T 43 (e_L 43 (0, ei_load 0 2 44, 0, 0)) (e_L 44 (0, ei_getf eft elay 12 62 47, 0, 0))))) (e_T 53 (e_T 49 (e_T 47 (e_L 47 (0, ei_load 8 0 49, 0, 0)) (e_L 49 (0, ei_load 0 2 50, 0, 0))) (e_T 50 (e_L 50 (0, ei_getf eft elay 12 60 53, 0, 0)) (e_L 53 (0, ei_bin eF_add 54, 0, 0)))) (e_T 56 (e_T 54 (e_L 54 (0, ei_load 7 0 56, 0, 0)) (e_L 56 (0, ei_bin eF_add 57, 0, 0))) (e_T 57 (e_L 57 (0, ei_un (fun x => (4, x)) 58, 0, 0)) (e_T 58 (e_L 58 (2, e_nof, 310, 3)) (e_L 61 (1, e_nof, 4, 0))))))))
set_option maxRecDepth 20000 in
set_option maxHeartbeats 4000000 in
theorem te_313_0_ok : ∀ pc, e_EOq eft cls elay eI n_313 pc (te_313_0 pc) :=
  (e_Tok2
  (e_Tok2
  (e_Tok2
  (e_Tok2
  (e_Tok2
  (e_Lok (ld_aload_n_0 (x_dk dn_313_0_0_ok 0 rfl)))
  (e_Lok (ld_iload_n_1 (x_dk dn_313_0_0_ok 1 rfl))))
  (e_Tok2
  (e_Lok (ld_iload_n_2 (x_dk dn_313_0_0_ok 2 rfl)))
  (e_Lok (ld_iload_n_3 (x_dk dn_313_0_0_ok 3 rfl)))))
  (e_Tok2
  (e_Tok2
  (e_Lok (lk_12_432 ho_313 (x_dk dn_313_0_0_ok 4 rfl)))
  (e_Lok (ld_aload_n_0 (x_dk dn_313_0_0_ok 5 rfl))))
  (e_Tok2
  (e_Lok (ld_aload_n_0 (x_dk dn_313_0_0_ok 6 rfl)))
  (e_Lok (lk_12_158g ho_313 (x_dk dn_313_0_0_ok 7 rfl))))))
  (e_Tok2
  (e_Tok2
  (e_Tok2
  (e_Lok (lk_12_435 ho_313 (x_dk dn_313_0_0_ok 8 rfl)))
  (e_Lok (ld_aload_n_0 (x_dk dn_313_0_0_ok 9 rfl))))
  (e_Tok2
  (e_Lok (lk_12_410g ho_313 (x_dk dn_313_0_0_ok 10 rfl)))
  (e_Lok (e_st (I := eI) (er_istore (i := 8) (x_dk dn_313_0_0_ok 11 rfl) (by decide +kernel)) nx_stor))))
  (e_Tok2
  (e_Tok2
  (e_Lok (ld_aload_n_0 (x_dk dn_313_0_0_ok 12 rfl)))
  (e_Lok (ld_iload_4 (x_dk dn_313_0_0_ok 13 rfl))))
  (e_Tok2
  (e_Lok (ld_iload_5 (x_dk dn_313_0_0_ok 14 rfl)))
  (e_Tok2
  (e_Lok (ld_iload_6 (x_dk dn_313_0_0_ok 15 rfl)))
  (e_Lok (lk_12_432 ho_313 (x_dk dn_313_0_0_ok 16 rfl))))))))
  (e_Tok2
  (e_Tok2
  (e_Tok2
  (e_Tok2
  (e_Lok (ld_aload_n_0 (x_dk dn_313_0_0_ok 17 rfl)))
  (e_Lok (ld_aload_n_0 (x_dk dn_313_0_0_ok 18 rfl))))
  (e_Tok2
  (e_Lok (lk_12_161g ho_313 (x_dk dn_313_0_0_ok 19 rfl)))
  (e_Lok (lk_12_435 ho_313 (x_dk dn_313_0_0_ok 20 rfl)))))
  (e_Tok2
  (e_Tok2
  (e_Lok (ld_aload_n_0 (x_dk dn_313_0_0_ok 21 rfl)))
  (e_Lok (lk_12_158g ho_313 (x_dk dn_313_0_0_ok 22 rfl))))
  (e_Tok2
  (e_Lok (ld_aload_n_0 (x_dk dn_313_0_0_ok 23 rfl)))
  (e_Lok (lk_12_161g ho_313 (x_dk dn_313_0_0_ok 24 rfl))))))
  (e_Tok2
  (e_Tok2
  (e_Tok2
  (e_Lok (ld_iload_8 (x_dk dn_313_0_1_ok 0 rfl)))
  (e_Lok (ld_aload_n_0 (x_dk dn_313_0_1_ok 1 rfl))))
  (e_Tok2
  (e_Lok (lk_12_410g ho_313 (x_dk dn_313_0_1_ok 2 rfl)))
  (e_Lok (sm_iadd (x_dk dn_313_0_1_ok 3 rfl)))))
  (e_Tok2
  (e_Tok2
  (e_Lok (ld_iload_7 (x_dk dn_313_0_1_ok 4 rfl)))
  (e_Lok (sm_iadd (x_dk dn_313_0_1_ok 5 rfl))))
  (e_Tok2
  (e_Lok (e_st (I := eI) (er_i2l (x_dk dn_313_0_1_ok 6 rfl)) (nx_un (fun _ => rfl))))
  (e_Tok2
  (e_Lok (lk_12_439 ho_313 (x_dk dn_313_0_1_ok 7 rfl)))
  (e_Lok (e_rt (I := eI) (k := 4) ⟨(x_dk dn_313_0_1_ok 8 rfl), rfl⟩))))))))
def te_313 : Nat → eE := te_313_0
theorem te_313_ok : ∀ pc, e_EOq eft cls elay eI n_313 pc (te_313 pc) := te_313_0_ok
theorem ho_314 : (xm_y n_314).cls = "RobotCellHouseModel" := rfl
def dn_314_0_0 : List (Nat × Instr × Nat) := [(0, .aload_n 0, 1), (1, .iload_n 1, 1), (2, .iload_n 2, 1), (3, .iload_n 3, 1), (4, .invokevirtual 432, 3), (7, .aload_n 0, 1), (8, .aload_n 0, 1), (9, .getfield 158, 3), (12, .invokevirtual 435, 3), (15, .aload_n 0, 1), (16, .getfield 410, 3), (19, .iload 5, 2), (21, .iadd, 1), (22, .i2l, 1), (23, .lstore 6, 2), (25, .aload_n 0, 1), (26, .getfield 67, 3), (29, .iload 4, 2), (31, .baload, 1), (32, .ifCond .ne 176, 3), (35, .aload_n 0, 1), (36, .getfield 71, 3), (39, .iload 4, 2), (41, .iaload, 1), (42, .i2l, 1)]
set_option maxRecDepth 20000 in
theorem dn_314_0_0_ok : dn_314_0_0.all (fun q => decide (decode (xm_b n_314) q.1 = .ok (q.2.1, q.2.2))) = true := xa_g_ok (by decide +kernel)
def dn_314_0_1 : List (Nat × Instr × Nat) := [(43, .aload_n 0, 1), (44, .getfield 71, 3), (47, .iload 4, 2), (49, .iaload, 1), (50, .i2l, 1), (51, .aload_n 0, 1), (52, .getfield 158, 3), (55, .iconst 0, 1), (56, .iaload, 1), (57, .i2l, 1), (58, .aload_n 0, 1), (59, .getfield 158, 3), (62, .iconst 2, 1), (63, .iaload, 1), (64, .i2l, 1), (65, .lload 6, 2), (67, .aload_n 0, 1), (68, .getfield 77, 3), (71, .iload 4, 2), (73, .iaload, 1), (74, .i2l, 1), (75, .ladd, 1), (76, .invokestatic 416, 3), (79, .ifCond .ne 50, 3), (82, .aload_n 0, 1)]
set_option maxRecDepth 20000 in
theorem dn_314_0_1_ok : dn_314_0_1.all (fun q => decide (decode (xm_b n_314) q.1 = .ok (q.2.1, q.2.2))) = true := xa_g_ok (by decide +kernel)
def dn_314_0_2 : List (Nat × Instr × Nat) := [(83, .getfield 74, 3), (86, .iload 4, 2), (88, .iaload, 1), (89, .i2l, 1), (90, .aload_n 0, 1), (91, .getfield 74, 3), (94, .iload 4, 2), (96, .iaload, 1), (97, .i2l, 1), (98, .aload_n 0, 1), (99, .getfield 158, 3), (102, .iconst 1, 1), (103, .iaload, 1), (104, .i2l, 1), (105, .aload_n 0, 1), (106, .getfield 158, 3), (109, .iconst 3, 1), (110, .iaload, 1), (111, .i2l, 1), (112, .lload 6, 2), (114, .aload_n 0, 1), (115, .getfield 77, 3), (118, .iload 4, 2), (120, .iaload, 1), (121, .i2l, 1)]
set_option maxRecDepth 20000 in
theorem dn_314_0_2_ok : dn_314_0_2.all (fun q => decide (decode (xm_b n_314) q.1 = .ok (q.2.1, q.2.2))) = true := xa_g_ok (by decide +kernel)
def dn_314_0_3 : List (Nat × Instr × Nat) := [(122, .ladd, 1), (123, .invokestatic 416, 3), (126, .ifCond .eq 7, 3), (129, .iconst 1, 1), (130, .goto 4, 3), (133, .iconst 0, 1), (134, .istore 8, 2), (136, .iload 8, 2), (138, .ifCond .ne 68, 3), (141, .aload_n 0, 1), (142, .getfield 71, 3), (145, .iload 4, 2), (147, .iaload, 1), (148, .i2l, 1), (149, .aload_n 0, 1), (150, .getfield 74, 3), (153, .iload 4, 2), (155, .iaload, 1), (156, .i2l, 1), (157, .aload_n 0, 1), (158, .getfield 158, 3), (161, .iconst 0, 1), (162, .iaload, 1), (163, .i2l, 1), (164, .aload_n 0, 1)]
set_option maxRecDepth 20000 in
theorem dn_314_0_3_ok : dn_314_0_3.all (fun q => decide (decode (xm_b n_314) q.1 = .ok (q.2.1, q.2.2))) = true := xa_g_ok (by decide +kernel)
def dn_314_1_0 : List (Nat × Instr × Nat) := [(165, .getfield 158, 3), (168, .iconst 1, 1), (169, .iaload, 1), (170, .i2l, 1), (171, .aload_n 0, 1), (172, .getfield 158, 3), (175, .iconst 2, 1), (176, .iaload, 1), (177, .i2l, 1), (178, .aload_n 0, 1), (179, .getfield 158, 3), (182, .iconst 3, 1), (183, .iaload, 1), (184, .i2l, 1), (185, .lload 6, 2), (187, .aload_n 0, 1), (188, .getfield 77, 3), (191, .iload 4, 2), (193, .iaload, 1), (194, .i2l, 1), (195, .ladd, 1), (196, .invokestatic 424, 3), (199, .ifCond .eq 7, 3), (202, .iconst 1, 1), (203, .goto 4, 3)]
set_option maxRecDepth 20000 in
theorem dn_314_1_0_ok : dn_314_1_0.all (fun q => decide (decode (xm_b n_314) q.1 = .ok (q.2.1, q.2.2))) = true := xa_g_ok (by decide +kernel)
def dn_314_1_1 : List (Nat × Instr × Nat) := [(206, .iconst 0, 1), (207, .ireturn, 1), (208, .aload_n 0, 1), (209, .getfield 71, 3), (212, .iload 4, 2), (214, .iaload, 1), (215, .istore 8, 2), (217, .aload_n 0, 1), (218, .getfield 74, 3), (221, .iload 4, 2), (223, .iaload, 1), (224, .istore 9, 2), (226, .iload 8, 2), (228, .aload_n 0, 1), (229, .getfield 77, 3), (232, .iload 4, 2), (234, .iaload, 1), (235, .iadd, 1), (236, .istore 10, 2), (238, .iload 9, 2), (240, .aload_n 0, 1), (241, .getfield 80, 3), (244, .iload 4, 2), (246, .iaload, 1), (247, .iadd, 1)]
set_option maxRecDepth 20000 in
theorem dn_314_1_1_ok : dn_314_1_1.all (fun q => decide (decode (xm_b n_314) q.1 = .ok (q.2.1, q.2.2))) = true := xa_g_ok (by decide +kernel)
def dn_314_1_2 : List (Nat × Instr × Nat) := [(248, .istore 11, 2), (250, .aload_n 0, 1), (251, .getfield 158, 3), (254, .iconst 0, 1), (255, .iaload, 1), (256, .i2l, 1), (257, .iload 8, 2), (259, .i2l, 1), (260, .iload 10, 2), (262, .i2l, 1), (263, .invokestatic 301, 3), (266, .ifCond .eq 24, 3), (269, .aload_n 0, 1), (270, .getfield 158, 3), (273, .iconst 1, 1), (274, .iaload, 1), (275, .i2l, 1), (276, .iload 9, 2), (278, .i2l, 1), (279, .iload 11, 2), (281, .i2l, 1), (282, .invokestatic 301, 3), (285, .ifCond .eq 5, 3), (288, .iconst 1, 1), (289, .ireturn, 1)]
set_option maxRecDepth 20000 in
theorem dn_314_1_2_ok : dn_314_1_2.all (fun q => decide (decode (xm_b n_314) q.1 = .ok (q.2.1, q.2.2))) = true := xa_g_ok (by decide +kernel)
def dn_314_1_3 : List (Nat × Instr × Nat) := [(290, .iconst 0, 1), (291, .istore 12, 2), (293, .iconst 0, 1), (294, .istore 13, 2), (296, .iload 13, 2), (298, .iconst 4, 1), (299, .if_icmp .ge 88, 3), (302, .iload 12, 2), (304, .ifCond .ne 83, 3), (307, .aload_n 0, 1), (308, .aload_n 0, 1), (309, .getfield 161, 3), (312, .iload 13, 2), (314, .iconst 3, 1), (315, .if_icmp .ne 8, 3), (318, .iload 10, 2), (320, .goto 5, 3), (323, .iload 8, 2), (325, .iload 13, 2), (327, .iconst 1, 1), (328, .if_icmp .ne 8, 3), (331, .iload 11, 2), (333, .goto 5, 3), (336, .iload 9, 2), (338, .iload 13, 2)]
set_option maxRecDepth 20000 in
theorem dn_314_1_3_ok : dn_314_1_3.all (fun q => decide (decode (xm_b n_314) q.1 = .ok (q.2.1, q.2.2))) = true := xa_g_ok (by decide +kernel)
def dn_314_2_0 : List (Nat × Instr × Nat) := [(340, .iconst 2, 1), (341, .if_icmp .ne 8, 3), (344, .iload 8, 2), (346, .goto 5, 3), (349, .iload 10, 2), (351, .iload 13, 2), (353, .ifCond .ne 8, 3), (356, .iload 9, 2), (358, .goto 5, 3), (361, .iload 11, 2), (363, .invokevirtual 428, 3), (366, .aload_n 0, 1), (367, .getfield 158, 3), (370, .aload_n 0, 1), (371, .getfield 161, 3), (374, .lload 6, 2), (376, .invokestatic 439, 3), (379, .istore 12, 2), (381, .iinc 13 1, 3), (384, .goto (-88), 3), (387, .iload 12, 2), (389, .ireturn, 1)]
set_option maxRecDepth 20000 in
theorem dn_314_2_0_ok : dn_314_2_0.all (fun q => decide (decode (xm_b n_314) q.1 = .ok (q.2.1, q.2.2))) = true := xa_g_ok (by decide +kernel)
def te_314_0 : Nat → eE := (e_T 21 (e_T 7 (e_T 2 (e_T 0 (e_L 0 (0, ei_load 0 2 1, 0, 0)) (e_T 1 (e_L 1 (0, ei_load 1 0 2, 0, 0)) (e_L 2 (0, ei_load 2 0 3, 0, 0)))) (e_T 3 (e_L 3 (0, ei_load 3 0 4, 0, 0)) (e_T 4 (e_L 4 (2, e_nof, 305, 4)) (e_L 7 (0, ei_load 0 2 8, 0, 0))))) (e_T 12 (e_T 8 (e_L 8 (0, ei_load 0 2 9, 0, 0)) (e_T 9 (e_L 9 (0, ei_getf eft elay 12 61 12, 0, 0)) (e_L 12 (2, e_nof, 312, 2)))) (e_T 16 (e_T 15 (e_L 15 (0, ei_load 0 2 16, 0, 0)) (e_L 16 (0, ei_getf eft elay 12 60 19, 0, 0))) (e_T 19 (e_L 19 (0, ei_load 5 0 21, 0, 0)) (e_L 21 (0, ei_bin eF_add 22, 0, 0)))))) (e_T 32 (e_T 25 (e_T 22 (e_L 22 (0, ei_un (fun x => (4, x)) 23, 0, 0)) (e_T 23 (e_L 23 (0, ei_stor 6 1 25, 0, 0)) (e_L 25 (0, ei_load 0 2 26, 0, 0)))) (e_T 29 (e_T 26 (e_L 26 (0, ei_getf eft elay 12 24 29, 0, 0)) (e_L 29 (0, ei_load 4 0 31, 0, 0))) (e_T 31 (e_L 31 (0, ei_ald elay true 32, 0, 0)) (e_L 32 (0, ei_if1 1 208 35, 0, 0))))) (e_T 39 (e_T 35 (e_L 35 (0, ei_load 0 2 36, 0, 0)) (e_T 36 (e_L 36 (0, ei_getf eft elay 12 25 39, 0, 0)) (e_L 39 (0, ei_load 4 0 41, 0, 0)))) (e_T 42 (e_T 41 (e_L 41 (0, ei_ald elay false 42, 0, 0)) (e_L 42 (0, ei_un (fun x => (4, x)) 43, 0, 0))) (e_T 43 (e_L 43 (0, ei_load 0 2 44, 0, 0)) (e_L 44 (0, ei_getf eft elay 12 25 47, 0, 0)))))))
set_option maxRecDepth 20000 in
set_option maxHeartbeats 4000000 in
theorem te_314_0_ok : ∀ pc, e_EOq eft cls elay eI n_314 pc (te_314_0 pc) :=
  (e_Tok2
  (e_Tok2
  (e_Tok2
  (e_Tok2
  (e_Lok (ld_aload_n_0 (x_dk dn_314_0_0_ok 0 rfl)))
  (e_Tok2
  (e_Lok (ld_iload_n_1 (x_dk dn_314_0_0_ok 1 rfl)))
  (e_Lok (ld_iload_n_2 (x_dk dn_314_0_0_ok 2 rfl)))))
  (e_Tok2
  (e_Lok (ld_iload_n_3 (x_dk dn_314_0_0_ok 3 rfl)))
  (e_Tok2
  (e_Lok (lk_12_432 ho_314 (x_dk dn_314_0_0_ok 4 rfl)))
  (e_Lok (ld_aload_n_0 (x_dk dn_314_0_0_ok 5 rfl))))))
  (e_Tok2
  (e_Tok2
  (e_Lok (ld_aload_n_0 (x_dk dn_314_0_0_ok 6 rfl)))
  (e_Tok2
  (e_Lok (lk_12_158g ho_314 (x_dk dn_314_0_0_ok 7 rfl)))
  (e_Lok (lk_12_435 ho_314 (x_dk dn_314_0_0_ok 8 rfl)))))
  (e_Tok2
  (e_Tok2
  (e_Lok (ld_aload_n_0 (x_dk dn_314_0_0_ok 9 rfl)))
  (e_Lok (lk_12_410g ho_314 (x_dk dn_314_0_0_ok 10 rfl))))
  (e_Tok2
  (e_Lok (ld_iload_5 (x_dk dn_314_0_0_ok 11 rfl)))
  (e_Lok (sm_iadd (x_dk dn_314_0_0_ok 12 rfl)))))))
  (e_Tok2
  (e_Tok2
  (e_Tok2
  (e_Lok (e_st (I := eI) (er_i2l (x_dk dn_314_0_0_ok 13 rfl)) (nx_un (fun _ => rfl))))
  (e_Tok2
  (e_Lok (e_st (I := eI) (er_lstore (i := 6) (x_dk dn_314_0_0_ok 14 rfl) (by decide +kernel)) nx_stor))
  (e_Lok (ld_aload_n_0 (x_dk dn_314_0_0_ok 15 rfl)))))
  (e_Tok2
  (e_Tok2
  (e_Lok (lk_12_67g ho_314 (x_dk dn_314_0_0_ok 16 rfl)))
  (e_Lok (ld_iload_4 (x_dk dn_314_0_0_ok 17 rfl))))
  (e_Tok2
  (e_Lok (e_st (I := eI) (er_baload (x_dk dn_314_0_0_ok 18 rfl)) nx_ald))
  (e_Lok (e_st (I := eI) (er_ifne (off := 176) (tg := 208) (x_dk dn_314_0_0_ok 19 rfl) (by decide)) nx_if1)))))
  (e_Tok2
  (e_Tok2
  (e_Lok (ld_aload_n_0 (x_dk dn_314_0_0_ok 20 rfl)))
  (e_Tok2
  (e_Lok (lk_12_71g ho_314 (x_dk dn_314_0_0_ok 21 rfl)))
  (e_Lok (ld_iload_4 (x_dk dn_314_0_0_ok 22 rfl)))))
  (e_Tok2
  (e_Tok2
  (e_Lok (sm_iaload (x_dk dn_314_0_0_ok 23 rfl)))
  (e_Lok (e_st (I := eI) (er_i2l (x_dk dn_314_0_0_ok 24 rfl)) (nx_un (fun _ => rfl)))))
  (e_Tok2
  (e_Lok (ld_aload_n_0 (x_dk dn_314_0_1_ok 0 rfl)))
  (e_Lok (lk_12_71g ho_314 (x_dk dn_314_0_1_ok 1 rfl))))))))
def te_314_27 : Nat → eE := (e_T 65 (e_T 56 (e_T 50 (e_T 47 (e_L 47 (0, ei_load 4 0 49, 0, 0)) (e_T 49 (e_L 49 (0, ei_ald elay false 50, 0, 0)) (e_L 50 (0, ei_un (fun x => (4, x)) 51, 0, 0)))) (e_T 52 (e_T 51 (e_L 51 (0, ei_load 0 2 52, 0, 0)) (e_L 52 (0, ei_getf eft elay 12 61 55, 0, 0))) (e_T 55 (e_L 55 (0, ei_push (0, 0) 56, 0, 0)) (e_L 56 (0, ei_ald elay false 57, 0, 0))))) (e_T 59 (e_T 57 (e_L 57 (0, ei_un (fun x => (4, x)) 58, 0, 0)) (e_T 58 (e_L 58 (0, ei_load 0 2 59, 0, 0)) (e_L 59 (0, ei_getf eft elay 12 61 62, 0, 0)))) (e_T 63 (e_T 62 (e_L 62 (0, ei_push (0, 2) 63, 0, 0)) (e_L 63 (0, ei_ald elay false 64, 0, 0))) (e_T 64 (e_L 64 (0, ei_un (fun x => (4, x)) 65, 0, 0)) (e_L 65 (0, ei_load 6 1 67, 0, 0)))))) (e_T 76 (e_T 71 (e_T 67 (e_L 67 (0, ei_load 0 2 68, 0, 0)) (e_T 68 (e_L 68 (0, ei_getf eft elay 12 27 71, 0, 0)) (e_L 71 (0, ei_load 4 0 73, 0, 0)))) (e_T 74 (e_T 73 (e_L 73 (0, ei_ald elay false 74, 0, 0)) (e_L 74 (0, ei_un (fun x => (4, x)) 75, 0, 0))) (e_T 75 (e_L 75 (0, ei_binL eG_add 76, 0, 0)) (e_L 76 (2, e_nof, 309, 5))))) (e_T 83 (e_T 79 (e_L 79 (0, ei_if1 1 129 82, 0, 0)) (e_T 82 (e_L 82 (0, ei_load 0 2 83, 0, 0)) (e_L 83 (0, ei_getf eft elay 12 26 86, 0, 0)))) (e_T 88 (e_T 86 (e_L 86 (0, ei_load 4 0 88, 0, 0)) (e_L 88 (0, ei_ald elay false 89, 0, 0))) (e_T 89 (e_L 89 (0, ei_un (fun x => (4, x)) 90, 0, 0)) (e_L 90 (0, ei_load 0 2 91, 0, 0)))))))
set_option maxRecDepth 20000 in
set_option maxHeartbeats 4000000 in
theorem te_314_27_ok : ∀ pc, e_EOq eft cls elay eI n_314 pc (te_314_27 pc) :=
  (e_Tok2
  (e_Tok2
  (e_Tok2
  (e_Tok2
  (e_Lok (ld_iload_4 (x_dk dn_314_0_1_ok 2 rfl)))
  (e_Tok2
  (e_Lok (sm_iaload (x_dk dn_314_0_1_ok 3 rfl)))
  (e_Lok (e_st (I := eI) (er_i2l (x_dk dn_314_0_1_ok 4 rfl)) (nx_un (fun _ => rfl))))))
  (e_Tok2
  (e_Tok2
  (e_Lok (ld_aload_n_0 (x_dk dn_314_0_1_ok 5 rfl)))
  (e_Lok (lk_12_158g ho_314 (x_dk dn_314_0_1_ok 6 rfl))))
  (e_Tok2
  (e_Lok (ps_iconst_0 (x_dk dn_314_0_1_ok 7 rfl)))
  (e_Lok (sm_iaload (x_dk dn_314_0_1_ok 8 rfl))))))
  (e_Tok2
  (e_Tok2
  (e_Lok (e_st (I := eI) (er_i2l (x_dk dn_314_0_1_ok 9 rfl)) (nx_un (fun _ => rfl))))
  (e_Tok2
  (e_Lok (ld_aload_n_0 (x_dk dn_314_0_1_ok 10 rfl)))
  (e_Lok (lk_12_158g ho_314 (x_dk dn_314_0_1_ok 11 rfl)))))
  (e_Tok2
  (e_Tok2
  (e_Lok (ps_iconst_2 (x_dk dn_314_0_1_ok 12 rfl)))
  (e_Lok (sm_iaload (x_dk dn_314_0_1_ok 13 rfl))))
  (e_Tok2
  (e_Lok (e_st (I := eI) (er_i2l (x_dk dn_314_0_1_ok 14 rfl)) (nx_un (fun _ => rfl))))
  (e_Lok (ld_lload_6 (x_dk dn_314_0_1_ok 15 rfl)))))))
  (e_Tok2
  (e_Tok2
  (e_Tok2
  (e_Lok (ld_aload_n_0 (x_dk dn_314_0_1_ok 16 rfl)))
  (e_Tok2
  (e_Lok (lk_12_77g ho_314 (x_dk dn_314_0_1_ok 17 rfl)))
  (e_Lok (ld_iload_4 (x_dk dn_314_0_1_ok 18 rfl)))))
  (e_Tok2
  (e_Tok2
  (e_Lok (sm_iaload (x_dk dn_314_0_1_ok 19 rfl)))
  (e_Lok (e_st (I := eI) (er_i2l (x_dk dn_314_0_1_ok 20 rfl)) (nx_un (fun _ => rfl)))))
  (e_Tok2
  (e_Lok (e_st (I := eI) (er_ladd (x_dk dn_314_0_1_ok 21 rfl)) (nx_binL bG_ladd)))
  (e_Lok (lk_12_416 ho_314 (x_dk dn_314_0_1_ok 22 rfl))))))
  (e_Tok2
  (e_Tok2
  (e_Lok (e_st (I := eI) (er_ifne (off := 50) (tg := 129) (x_dk dn_314_0_1_ok 23 rfl) (by decide)) nx_if1))
  (e_Tok2
  (e_Lok (ld_aload_n_0 (x_dk dn_314_0_1_ok 24 rfl)))
  (e_Lok (lk_12_74g ho_314 (x_dk dn_314_0_2_ok 0 rfl)))))
  (e_Tok2
  (e_Tok2
  (e_Lok (ld_iload_4 (x_dk dn_314_0_2_ok 1 rfl)))
  (e_Lok (sm_iaload (x_dk dn_314_0_2_ok 2 rfl))))
  (e_Tok2
  (e_Lok (e_st (I := eI) (er_i2l (x_dk dn_314_0_2_ok 3 rfl)) (nx_un (fun _ => rfl))))
  (e_Lok (ld_aload_n_0 (x_dk dn_314_0_2_ok 4 rfl))))))))
def te_314_55 : Nat → eE := (e_T 111 (e_T 102 (e_T 96 (e_T 91 (e_L 91 (0, ei_getf eft elay 12 26 94, 0, 0)) (e_T 94 (e_L 94 (0, ei_load 4 0 96, 0, 0)) (e_L 96 (0, ei_ald elay false 97, 0, 0)))) (e_T 98 (e_T 97 (e_L 97 (0, ei_un (fun x => (4, x)) 98, 0, 0)) (e_L 98 (0, ei_load 0 2 99, 0, 0))) (e_T 99 (e_L 99 (0, ei_getf eft elay 12 61 102, 0, 0)) (e_L 102 (0, ei_push (0, 1) 103, 0, 0))))) (e_T 105 (e_T 103 (e_L 103 (0, ei_ald elay false 104, 0, 0)) (e_T 104 (e_L 104 (0, ei_un (fun x => (4, x)) 105, 0, 0)) (e_L 105 (0, ei_load 0 2 106, 0, 0)))) (e_T 109 (e_T 106 (e_L 106 (0, ei_getf eft elay 12 61 109, 0, 0)) (e_L 109 (0, ei_push (0, 3) 110, 0, 0))) (e_T 110 (e_L 110 (0, ei_ald elay false 111, 0, 0)) (e_L 111 (0, ei_un (fun x => (4, x)) 112, 0, 0)))))) (e_T 122 (e_T 115 (e_T 112 (e_L 112 (0, ei_load 6 1 114, 0, 0)) (e_T 114 (e_L 114 (0, ei_load 0 2 115, 0, 0)) (e_L 115 (0, ei_getf eft elay 12 27 118, 0, 0)))) (e_T 120 (e_T 118 (e_L 118 (0, ei_load 4 0 120, 0, 0)) (e_L 120 (0, ei_ald elay false 121, 0, 0))) (e_T 121 (e_L 121 (0, ei_un (fun x => (4, x)) 122, 0, 0)) (e_L 122 (0, ei_binL eG_add 123, 0, 0))))) (e_T 129 (e_T 123 (e_L 123 (2, e_nof, 309, 5)) (e_T 126 (e_L 126 (0, ei_if1 0 133 129, 0, 0)) (e_L 129 (0, ei_push (0, 1) 130, 0, 0)))) (e_T 133 (e_T 130 (e_L 130 (0, ei_goto 134, 0, 0)) (e_L 133 (0, ei_push (0, 0) 134, 0, 0))) (e_T 134 (e_L 134 (0, ei_stor 8 0 136, 0, 0)) (e_L 136 (0, ei_load 8 0 138, 0, 0)))))))
set_option maxRecDepth 20000 in
set_option maxHeartbeats 4000000 in
theorem te_314_55_ok : ∀ pc, e_EOq eft cls elay eI n_314 pc (te_314_55 pc) :=
  (e_Tok2
  (e_Tok2
  (e_Tok2
  (e_Tok2
  (e_Lok (lk_12_74g ho_314 (x_dk dn_314_0_2_ok 5 rfl)))
  (e_Tok2
  (e_Lok (ld_iload_4 (x_dk dn_314_0_2_ok 6 rfl)))
  (e_Lok (sm_iaload (x_dk dn_314_0_2_ok 7 rfl)))))
  (e_Tok2
  (e_Tok2
  (e_Lok (e_st (I := eI) (er_i2l (x_dk dn_314_0_2_ok 8 rfl)) (nx_un (fun _ => rfl))))
  (e_Lok (ld_aload_n_0 (x_dk dn_314_0_2_ok 9 rfl))))
  (e_Tok2
  (e_Lok (lk_12_158g ho_314 (x_dk dn_314_0_2_ok 10 rfl)))
  (e_Lok (ps_iconst_1 (x_dk dn_314_0_2_ok 11 rfl))))))
  (e_Tok2
  (e_Tok2
  (e_Lok (sm_iaload (x_dk dn_314_0_2_ok 12 rfl)))
  (e_Tok2
  (e_Lok (e_st (I := eI) (er_i2l (x_dk dn_314_0_2_ok 13 rfl)) (nx_un (fun _ => rfl))))
  (e_Lok (ld_aload_n_0 (x_dk dn_314_0_2_ok 14 rfl)))))
  (e_Tok2
  (e_Tok2
  (e_Lok (lk_12_158g ho_314 (x_dk dn_314_0_2_ok 15 rfl)))
  (e_Lok (ps_iconst_3 (x_dk dn_314_0_2_ok 16 rfl))))
  (e_Tok2
  (e_Lok (sm_iaload (x_dk dn_314_0_2_ok 17 rfl)))
  (e_Lok (e_st (I := eI) (er_i2l (x_dk dn_314_0_2_ok 18 rfl)) (nx_un (fun _ => rfl))))))))
  (e_Tok2
  (e_Tok2
  (e_Tok2
  (e_Lok (ld_lload_6 (x_dk dn_314_0_2_ok 19 rfl)))
  (e_Tok2
  (e_Lok (ld_aload_n_0 (x_dk dn_314_0_2_ok 20 rfl)))
  (e_Lok (lk_12_77g ho_314 (x_dk dn_314_0_2_ok 21 rfl)))))
  (e_Tok2
  (e_Tok2
  (e_Lok (ld_iload_4 (x_dk dn_314_0_2_ok 22 rfl)))
  (e_Lok (sm_iaload (x_dk dn_314_0_2_ok 23 rfl))))
  (e_Tok2
  (e_Lok (e_st (I := eI) (er_i2l (x_dk dn_314_0_2_ok 24 rfl)) (nx_un (fun _ => rfl))))
  (e_Lok (e_st (I := eI) (er_ladd (x_dk dn_314_0_3_ok 0 rfl)) (nx_binL bG_ladd))))))
  (e_Tok2
  (e_Tok2
  (e_Lok (lk_12_416 ho_314 (x_dk dn_314_0_3_ok 1 rfl)))
  (e_Tok2
  (e_Lok (e_st (I := eI) (er_ifeq (off := 7) (tg := 133) (x_dk dn_314_0_3_ok 2 rfl) (by decide)) nx_if1))
  (e_Lok (ps_iconst_1 (x_dk dn_314_0_3_ok 3 rfl)))))
  (e_Tok2
  (e_Tok2
  (e_Lok (e_st (I := eI) (er_goto (off := 4) (tg := 134) (x_dk dn_314_0_3_ok 4 rfl) (by decide)) nx_goto))
  (e_Lok (ps_iconst_0 (x_dk dn_314_0_3_ok 5 rfl))))
  (e_Tok2
  (e_Lok (e_st (I := eI) (er_istore (i := 8) (x_dk dn_314_0_3_ok 6 rfl) (by decide +kernel)) nx_stor))
  (e_Lok (ld_iload_8 (x_dk dn_314_0_3_ok 7 rfl))))))))
def te_314_83 : Nat → eE := (e_T 161 (e_T 149 (e_T 142 (e_T 138 (e_L 138 (0, ei_if1 1 206 141, 0, 0)) (e_T 141 (e_L 141 (0, ei_load 0 2 142, 0, 0)) (e_L 142 (0, ei_getf eft elay 12 25 145, 0, 0)))) (e_T 147 (e_T 145 (e_L 145 (0, ei_load 4 0 147, 0, 0)) (e_L 147 (0, ei_ald elay false 148, 0, 0))) (e_T 148 (e_L 148 (0, ei_un (fun x => (4, x)) 149, 0, 0)) (e_L 149 (0, ei_load 0 2 150, 0, 0))))) (e_T 155 (e_T 150 (e_L 150 (0, ei_getf eft elay 12 26 153, 0, 0)) (e_T 153 (e_L 153 (0, ei_load 4 0 155, 0, 0)) (e_L 155 (0, ei_ald elay false 156, 0, 0)))) (e_T 157 (e_T 156 (e_L 156 (0, ei_un (fun x => (4, x)) 157, 0, 0)) (e_L 157 (0, ei_load 0 2 158, 0, 0))) (e_T 158 (e_L 158 (0, ei_getf eft elay 12 61 161, 0, 0)) (e_L 161 (0, ei_push (0, 0) 162, 0, 0)))))) (e_T 170 (e_T 164 (e_T 162 (e_L 162 (0, ei_ald elay false 163, 0, 0)) (e_T 163 (e_L 163 (0, ei_un (fun x => (4, x)) 164, 0, 0)) (e_L 164 (0, ei_load 0 2 165, 0, 0)))) (e_T 168 (e_T 165 (e_L 165 (0, ei_getf eft elay 12 61 168, 0, 0)) (e_L 168 (0, ei_push (0, 1) 169, 0, 0))) (e_T 169 (e_L 169 (0, ei_ald elay false 170, 0, 0)) (e_L 170 (0, ei_un (fun x => (4, x)) 171, 0, 0))))) (e_T 175 (e_T 171 (e_L 171 (0, ei_load 0 2 172, 0, 0)) (e_T 172 (e_L 172 (0, ei_getf eft elay 12 61 175, 0, 0)) (e_L 175 (0, ei_push (0, 2) 176, 0, 0)))) (e_T 177 (e_T 176 (e_L 176 (0, ei_ald elay false 177, 0, 0)) (e_L 177 (0, ei_un (fun x => (4, x)) 178, 0, 0))) (e_T 178 (e_L 178 (0, ei_load 0 2 179, 0, 0)) (e_L 179 (0, ei_getf eft elay 12 61 182, 0, 0)))))))
set_option maxRecDepth 20000 in
set_option maxHeartbeats 4000000 in
theorem te_314_83_ok : ∀ pc, e_EOq eft cls elay eI n_314 pc (te_314_83 pc) :=
  (e_Tok2
  (e_Tok2
  (e_Tok2
  (e_Tok2
  (e_Lok (e_st (I := eI) (er_ifne (off := 68) (tg := 206) (x_dk dn_314_0_3_ok 8 rfl) (by decide)) nx_if1))
  (e_Tok2
  (e_Lok (ld_aload_n_0 (x_dk dn_314_0_3_ok 9 rfl)))
  (e_Lok (lk_12_71g ho_314 (x_dk dn_314_0_3_ok 10 rfl)))))
  (e_Tok2
  (e_Tok2
  (e_Lok (ld_iload_4 (x_dk dn_314_0_3_ok 11 rfl)))
  (e_Lok (sm_iaload (x_dk dn_314_0_3_ok 12 rfl))))
  (e_Tok2
  (e_Lok (e_st (I := eI) (er_i2l (x_dk dn_314_0_3_ok 13 rfl)) (nx_un (fun _ => rfl))))
  (e_Lok (ld_aload_n_0 (x_dk dn_314_0_3_ok 14 rfl))))))
  (e_Tok2
  (e_Tok2
  (e_Lok (lk_12_74g ho_314 (x_dk dn_314_0_3_ok 15 rfl)))
  (e_Tok2
  (e_Lok (ld_iload_4 (x_dk dn_314_0_3_ok 16 rfl)))
  (e_Lok (sm_iaload (x_dk dn_314_0_3_ok 17 rfl)))))
  (e_Tok2
  (e_Tok2
  (e_Lok (e_st (I := eI) (er_i2l (x_dk dn_314_0_3_ok 18 rfl)) (nx_un (fun _ => rfl))))
  (e_Lok (ld_aload_n_0 (x_dk dn_314_0_3_ok 19 rfl))))
  (e_Tok2
  (e_Lok (lk_12_158g ho_314 (x_dk dn_314_0_3_ok 20 rfl)))
  (e_Lok (ps_iconst_0 (x_dk dn_314_0_3_ok 21 rfl)))))))
  (e_Tok2
  (e_Tok2
  (e_Tok2
  (e_Lok (sm_iaload (x_dk dn_314_0_3_ok 22 rfl)))
  (e_Tok2
  (e_Lok (e_st (I := eI) (er_i2l (x_dk dn_314_0_3_ok 23 rfl)) (nx_un (fun _ => rfl))))
  (e_Lok (ld_aload_n_0 (x_dk dn_314_0_3_ok 24 rfl)))))
  (e_Tok2
  (e_Tok2
  (e_Lok (lk_12_158g ho_314 (x_dk dn_314_1_0_ok 0 rfl)))
  (e_Lok (ps_iconst_1 (x_dk dn_314_1_0_ok 1 rfl))))
  (e_Tok2
  (e_Lok (sm_iaload (x_dk dn_314_1_0_ok 2 rfl)))
  (e_Lok (e_st (I := eI) (er_i2l (x_dk dn_314_1_0_ok 3 rfl)) (nx_un (fun _ => rfl)))))))
  (e_Tok2
  (e_Tok2
  (e_Lok (ld_aload_n_0 (x_dk dn_314_1_0_ok 4 rfl)))
  (e_Tok2
  (e_Lok (lk_12_158g ho_314 (x_dk dn_314_1_0_ok 5 rfl)))
  (e_Lok (ps_iconst_2 (x_dk dn_314_1_0_ok 6 rfl)))))
  (e_Tok2
  (e_Tok2
  (e_Lok (sm_iaload (x_dk dn_314_1_0_ok 7 rfl)))
  (e_Lok (e_st (I := eI) (er_i2l (x_dk dn_314_1_0_ok 8 rfl)) (nx_un (fun _ => rfl)))))
  (e_Tok2
  (e_Lok (ld_aload_n_0 (x_dk dn_314_1_0_ok 9 rfl)))
  (e_Lok (lk_12_158g ho_314 (x_dk dn_314_1_0_ok 10 rfl))))))))
def te_314_111 : Nat → eE := (e_T 202 (e_T 188 (e_T 184 (e_T 182 (e_L 182 (0, ei_push (0, 3) 183, 0, 0)) (e_T 183 (e_L 183 (0, ei_ald elay false 184, 0, 0)) (e_L 184 (0, ei_un (fun x => (4, x)) 185, 0, 0)))) (e_T 185 (e_L 185 (0, ei_load 6 1 187, 0, 0)) (e_T 187 (e_L 187 (0, ei_load 0 2 188, 0, 0)) (e_L 188 (0, ei_getf eft elay 12 27 191, 0, 0))))) (e_T 194 (e_T 191 (e_L 191 (0, ei_load 4 0 193, 0, 0)) (e_T 193 (e_L 193 (0, ei_ald elay false 194, 0, 0)) (e_L 194 (0, ei_un (fun x => (4, x)) 195, 0, 0)))) (e_T 196 (e_T 195 (e_L 195 (0, ei_binL eG_add 196, 0, 0)) (e_L 196 (2, e_nof, 307, 7))) (e_T 199 (e_L 199 (0, ei_if1 0 206 202, 0, 0)) (e_L 202 (0, ei_push (0, 1) 203, 0, 0)))))) (e_T 214 (e_T 207 (e_T 203 (e_L 203 (0, ei_goto 207, 0, 0)) (e_T 206 (e_L 206 (0, ei_push (0, 0) 207, 0, 0)) (e_L 207 (1, e_nof, 4, 0)))) (e_T 209 (e_T 208 (e_L 208 (0, ei_load 0 2 209, 0, 0)) (e_L 209 (0, ei_getf eft elay 12 25 212, 0, 0))) (e_T 212 (e_L 212 (0, ei_load 4 0 214, 0, 0)) (e_L 214 (0, ei_ald elay false 215, 0, 0))))) (e_T 218 (e_T 215 (e_L 215 (0, ei_stor 8 0 217, 0, 0)) (e_T 217 (e_L 217 (0, ei_load 0 2 218, 0, 0)) (e_L 218 (0, ei_getf eft elay 12 26 221, 0, 0)))) (e_T 223 (e_T 221 (e_L 221 (0, ei_load 4 0 223, 0, 0)) (e_L 223 (0, ei_ald elay false 224, 0, 0))) (e_T 224 (e_L 224 (0, ei_stor 9 0 226, 0, 0)) (e_L 226 (0, ei_load 8 0 228, 0, 0)))))))
set_option maxRecDepth 20000 in
set_option maxHeartbeats 4000000 in
theorem te_314_111_ok : ∀ pc, e_EOq eft cls elay eI n_314 pc (te_314_111 pc) :=
  (e_Tok2
  (e_Tok2
  (e_Tok2
  (e_Tok2
  (e_Lok (ps_iconst_3 (x_dk dn_314_1_0_ok 11 rfl)))
  (e_Tok2
  (e_Lok (sm_iaload (x_dk dn_314_1_0_ok 12 rfl)))
  (e_Lok (e_st (I := eI) (er_i2l (x_dk dn_314_1_0_ok 13 rfl)) (nx_un (fun _ => rfl))))))
  (e_Tok2
  (e_Lok (ld_lload_6 (x_dk dn_314_1_0_ok 14 rfl)))
  (e_Tok2
  (e_Lok (ld_aload_n_0 (x_dk dn_314_1_0_ok 15 rfl)))
  (e_Lok (lk_12_77g ho_314 (x_dk dn_314_1_0_ok 16 rfl))))))
  (e_Tok2
  (e_Tok2
  (e_Lok (ld_iload_4 (x_dk dn_314_1_0_ok 17 rfl)))
  (e_Tok2
  (e_Lok (sm_iaload (x_dk dn_314_1_0_ok 18 rfl)))
  (e_Lok (e_st (I := eI) (er_i2l (x_dk dn_314_1_0_ok 19 rfl)) (nx_un (fun _ => rfl))))))
  (e_Tok2
  (e_Tok2
  (e_Lok (e_st (I := eI) (er_ladd (x_dk dn_314_1_0_ok 20 rfl)) (nx_binL bG_ladd)))
  (e_Lok (lk_12_424 ho_314 (x_dk dn_314_1_0_ok 21 rfl))))
  (e_Tok2
  (e_Lok (e_st (I := eI) (er_ifeq (off := 7) (tg := 206) (x_dk dn_314_1_0_ok 22 rfl) (by decide)) nx_if1))
  (e_Lok (ps_iconst_1 (x_dk dn_314_1_0_ok 23 rfl)))))))
  (e_Tok2
  (e_Tok2
  (e_Tok2
  (e_Lok (e_st (I := eI) (er_goto (off := 4) (tg := 207) (x_dk dn_314_1_0_ok 24 rfl) (by decide)) nx_goto))
  (e_Tok2
  (e_Lok (ps_iconst_0 (x_dk dn_314_1_1_ok 0 rfl)))
  (e_Lok (e_rt (I := eI) (k := 4) ⟨(x_dk dn_314_1_1_ok 1 rfl), rfl⟩))))
  (e_Tok2
  (e_Tok2
  (e_Lok (ld_aload_n_0 (x_dk dn_314_1_1_ok 2 rfl)))
  (e_Lok (lk_12_71g ho_314 (x_dk dn_314_1_1_ok 3 rfl))))
  (e_Tok2
  (e_Lok (ld_iload_4 (x_dk dn_314_1_1_ok 4 rfl)))
  (e_Lok (sm_iaload (x_dk dn_314_1_1_ok 5 rfl))))))
  (e_Tok2
  (e_Tok2
  (e_Lok (e_st (I := eI) (er_istore (i := 8) (x_dk dn_314_1_1_ok 6 rfl) (by decide +kernel)) nx_stor))
  (e_Tok2
  (e_Lok (ld_aload_n_0 (x_dk dn_314_1_1_ok 7 rfl)))
  (e_Lok (lk_12_74g ho_314 (x_dk dn_314_1_1_ok 8 rfl)))))
  (e_Tok2
  (e_Tok2
  (e_Lok (ld_iload_4 (x_dk dn_314_1_1_ok 9 rfl)))
  (e_Lok (sm_iaload (x_dk dn_314_1_1_ok 10 rfl))))
  (e_Tok2
  (e_Lok (e_st (I := eI) (er_istore (i := 9) (x_dk dn_314_1_1_ok 11 rfl) (by decide +kernel)) nx_stor))
  (e_Lok (ld_iload_8 (x_dk dn_314_1_1_ok 12 rfl))))))))
def te_314_138 : Nat → eE := (e_T 250 (e_T 238 (e_T 232 (e_T 228 (e_L 228 (0, ei_load 0 2 229, 0, 0)) (e_T 229 (e_L 229 (0, ei_getf eft elay 12 27 232, 0, 0)) (e_L 232 (0, ei_load 4 0 234, 0, 0)))) (e_T 235 (e_T 234 (e_L 234 (0, ei_ald elay false 235, 0, 0)) (e_L 235 (0, ei_bin eF_add 236, 0, 0))) (e_T 236 (e_L 236 (0, ei_stor 10 0 238, 0, 0)) (e_L 238 (0, ei_load 9 0 240, 0, 0))))) (e_T 244 (e_T 240 (e_L 240 (0, ei_load 0 2 241, 0, 0)) (e_T 241 (e_L 241 (0, ei_getf eft elay 12 28 244, 0, 0)) (e_L 244 (0, ei_load 4 0 246, 0, 0)))) (e_T 247 (e_T 246 (e_L 246 (0, ei_ald elay false 247, 0, 0)) (e_L 247 (0, ei_bin eF_add 248, 0, 0))) (e_T 248 (e_L 248 (0, ei_stor 11 0 250, 0, 0)) (e_L 250 (0, ei_load 0 2 251, 0, 0)))))) (e_T 260 (e_T 255 (e_T 251 (e_L 251 (0, ei_getf eft elay 12 61 254, 0, 0)) (e_T 254 (e_L 254 (0, ei_push (0, 0) 255, 0, 0)) (e_L 255 (0, ei_ald elay false 256, 0, 0)))) (e_T 257 (e_T 256 (e_L 256 (0, ei_un (fun x => (4, x)) 257, 0, 0)) (e_L 257 (0, ei_load 8 0 259, 0, 0))) (e_T 259 (e_L 259 (0, ei_un (fun x => (4, x)) 260, 0, 0)) (e_L 260 (0, ei_load 10 0 262, 0, 0))))) (e_T 266 (e_T 262 (e_L 262 (0, ei_un (fun x => (4, x)) 263, 0, 0)) (e_T 263 (e_L 263 (2, e_nof, 266, 3)) (e_L 266 (0, ei_if1 0 290 269, 0, 0)))) (e_T 270 (e_T 269 (e_L 269 (0, ei_load 0 2 270, 0, 0)) (e_L 270 (0, ei_getf eft elay 12 61 273, 0, 0))) (e_T 273 (e_L 273 (0, ei_push (0, 1) 274, 0, 0)) (e_L 274 (0, ei_ald elay false 275, 0, 0)))))))
set_option maxRecDepth 20000 in
set_option maxHeartbeats 4000000 in
theorem te_314_138_ok : ∀ pc, e_EOq eft cls elay eI n_314 pc (te_314_138 pc) :=
  (e_Tok2
  (e_Tok2
  (e_Tok2
  (e_Tok2
  (e_Lok (ld_aload_n_0 (x_dk dn_314_1_1_ok 13 rfl)))
  (e_Tok2
  (e_Lok (lk_12_77g ho_314 (x_dk dn_314_1_1_ok 14 rfl)))
  (e_Lok (ld_iload_4 (x_dk dn_314_1_1_ok 15 rfl)))))
  (e_Tok2
  (e_Tok2
  (e_Lok (sm_iaload (x_dk dn_314_1_1_ok 16 rfl)))
  (e_Lok (sm_iadd (x_dk dn_314_1_1_ok 17 rfl))))
  (e_Tok2
  (e_Lok (e_st (I := eI) (er_istore (i := 10) (x_dk dn_314_1_1_ok 18 rfl) (by decide +kernel)) nx_stor))
  (e_Lok (ld_iload_9 (x_dk dn_314_1_1_ok 19 rfl))))))
  (e_Tok2
  (e_Tok2
  (e_Lok (ld_aload_n_0 (x_dk dn_314_1_1_ok 20 rfl)))
  (e_Tok2
  (e_Lok (lk_12_80g ho_314 (x_dk dn_314_1_1_ok 21 rfl)))
  (e_Lok (ld_iload_4 (x_dk dn_314_1_1_ok 22 rfl)))))
  (e_Tok2
  (e_Tok2
  (e_Lok (sm_iaload (x_dk dn_314_1_1_ok 23 rfl)))
  (e_Lok (sm_iadd (x_dk dn_314_1_1_ok 24 rfl))))
  (e_Tok2
  (e_Lok (e_st (I := eI) (er_istore (i := 11) (x_dk dn_314_1_2_ok 0 rfl) (by decide +kernel)) nx_stor))
  (e_Lok (ld_aload_n_0 (x_dk dn_314_1_2_ok 1 rfl)))))))
  (e_Tok2
  (e_Tok2
  (e_Tok2
  (e_Lok (lk_12_158g ho_314 (x_dk dn_314_1_2_ok 2 rfl)))
  (e_Tok2
  (e_Lok (ps_iconst_0 (x_dk dn_314_1_2_ok 3 rfl)))
  (e_Lok (sm_iaload (x_dk dn_314_1_2_ok 4 rfl)))))
  (e_Tok2
  (e_Tok2
  (e_Lok (e_st (I := eI) (er_i2l (x_dk dn_314_1_2_ok 5 rfl)) (nx_un (fun _ => rfl))))
  (e_Lok (ld_iload_8 (x_dk dn_314_1_2_ok 6 rfl))))
  (e_Tok2
  (e_Lok (e_st (I := eI) (er_i2l (x_dk dn_314_1_2_ok 7 rfl)) (nx_un (fun _ => rfl))))
  (e_Lok (ld_iload_10 (x_dk dn_314_1_2_ok 8 rfl))))))
  (e_Tok2
  (e_Tok2
  (e_Lok (e_st (I := eI) (er_i2l (x_dk dn_314_1_2_ok 9 rfl)) (nx_un (fun _ => rfl))))
  (e_Tok2
  (e_Lok (lk_12_301 ho_314 (x_dk dn_314_1_2_ok 10 rfl)))
  (e_Lok (e_st (I := eI) (er_ifeq (off := 24) (tg := 290) (x_dk dn_314_1_2_ok 11 rfl) (by decide)) nx_if1))))
  (e_Tok2
  (e_Tok2
  (e_Lok (ld_aload_n_0 (x_dk dn_314_1_2_ok 12 rfl)))
  (e_Lok (lk_12_158g ho_314 (x_dk dn_314_1_2_ok 13 rfl))))
  (e_Tok2
  (e_Lok (ps_iconst_1 (x_dk dn_314_1_2_ok 14 rfl)))
  (e_Lok (sm_iaload (x_dk dn_314_1_2_ok 15 rfl))))))))
def te_314_166 : Nat → eE := (e_T 296 (e_T 285 (e_T 278 (e_T 275 (e_L 275 (0, ei_un (fun x => (4, x)) 276, 0, 0)) (e_T 276 (e_L 276 (0, ei_load 9 0 278, 0, 0)) (e_L 278 (0, ei_un (fun x => (4, x)) 279, 0, 0)))) (e_T 281 (e_T 279 (e_L 279 (0, ei_load 11 0 281, 0, 0)) (e_L 281 (0, ei_un (fun x => (4, x)) 282, 0, 0))) (e_T 282 (e_L 282 (2, e_nof, 266, 3)) (e_L 285 (0, ei_if1 0 290 288, 0, 0))))) (e_T 290 (e_T 288 (e_L 288 (0, ei_push (0, 1) 289, 0, 0)) (e_T 289 (e_L 289 (1, e_nof, 4, 0)) (e_L 290 (0, ei_push (0, 0) 291, 0, 0)))) (e_T 293 (e_T 291 (e_L 291 (0, ei_stor 12 0 293, 0, 0)) (e_L 293 (0, ei_push (0, 0) 294, 0, 0))) (e_T 294 (e_L 294 (0, ei_stor 13 0 296, 0, 0)) (e_L 296 (0, ei_load 13 0 298, 0, 0)))))) (e_T 309 (e_T 302 (e_T 298 (e_L 298 (0, ei_push (0, 4) 299, 0, 0)) (e_T 299 (e_L 299 (0, ei_if2 3 387 302, 0, 0)) (e_L 302 (0, ei_load 12 0 304, 0, 0)))) (e_T 307 (e_T 304 (e_L 304 (0, ei_if1 1 387 307, 0, 0)) (e_L 307 (0, ei_load 0 2 308, 0, 0))) (e_T 308 (e_L 308 (0, ei_load 0 2 309, 0, 0)) (e_L 309 (0, ei_getf eft elay 12 62 312, 0, 0))))) (e_T 315 (e_T 312 (e_L 312 (0, ei_load 13 0 314, 0, 0)) (e_T 314 (e_L 314 (0, ei_push (0, 3) 315, 0, 0)) (e_L 315 (0, ei_if2 1 323 318, 0, 0)))) (e_T 320 (e_T 318 (e_L 318 (0, ei_load 10 0 320, 0, 0)) (e_L 320 (0, ei_goto 325, 0, 0))) (e_T 323 (e_L 323 (0, ei_load 8 0 325, 0, 0)) (e_L 325 (0, ei_load 13 0 327, 0, 0)))))))
set_option maxRecDepth 20000 in
set_option maxHeartbeats 4000000 in
theorem te_314_166_ok : ∀ pc, e_EOq eft cls elay eI n_314 pc (te_314_166 pc) :=
  (e_Tok2
  (e_Tok2
  (e_Tok2
  (e_Tok2
  (e_Lok (e_st (I := eI) (er_i2l (x_dk dn_314_1_2_ok 16 rfl)) (nx_un (fun _ => rfl))))
  (e_Tok2
  (e_Lok (ld_iload_9 (x_dk dn_314_1_2_ok 17 rfl)))
  (e_Lok (e_st (I := eI) (er_i2l (x_dk dn_314_1_2_ok 18 rfl)) (nx_un (fun _ => rfl))))))
  (e_Tok2
  (e_Tok2
  (e_Lok (ld_iload_11 (x_dk dn_314_1_2_ok 19 rfl)))
  (e_Lok (e_st (I := eI) (er_i2l (x_dk dn_314_1_2_ok 20 rfl)) (nx_un (fun _ => rfl)))))
  (e_Tok2
  (e_Lok (lk_12_301 ho_314 (x_dk dn_314_1_2_ok 21 rfl)))
  (e_Lok (e_st (I := eI) (er_ifeq (off := 5) (tg := 290) (x_dk dn_314_1_2_ok 22 rfl) (by decide)) nx_if1)))))
  (e_Tok2
  (e_Tok2
  (e_Lok (ps_iconst_1 (x_dk dn_314_1_2_ok 23 rfl)))
  (e_Tok2
  (e_Lok (e_rt (I := eI) (k := 4) ⟨(x_dk dn_314_1_2_ok 24 rfl), rfl⟩))
  (e_Lok (ps_iconst_0 (x_dk dn_314_1_3_ok 0 rfl)))))
  (e_Tok2
  (e_Tok2
  (e_Lok (e_st (I := eI) (er_istore (i := 12) (x_dk dn_314_1_3_ok 1 rfl) (by decide +kernel)) nx_stor))
  (e_Lok (ps_iconst_0 (x_dk dn_314_1_3_ok 2 rfl))))
  (e_Tok2
  (e_Lok (e_st (I := eI) (er_istore (i := 13) (x_dk dn_314_1_3_ok 3 rfl) (by decide +kernel)) nx_stor))
  (e_Lok (ld_iload_13 (x_dk dn_314_1_3_ok 4 rfl)))))))
  (e_Tok2
  (e_Tok2
  (e_Tok2
  (e_Lok (ps_iconst_4 (x_dk dn_314_1_3_ok 5 rfl)))
  (e_Tok2
  (e_Lok (e_st (I := eI) (er_icmpge (off := 88) (tg := 387) (x_dk dn_314_1_3_ok 6 rfl) (by decide)) nx_if2))
  (e_Lok (ld_iload_12 (x_dk dn_314_1_3_ok 7 rfl)))))
  (e_Tok2
  (e_Tok2
  (e_Lok (e_st (I := eI) (er_ifne (off := 83) (tg := 387) (x_dk dn_314_1_3_ok 8 rfl) (by decide)) nx_if1))
  (e_Lok (ld_aload_n_0 (x_dk dn_314_1_3_ok 9 rfl))))
  (e_Tok2
  (e_Lok (ld_aload_n_0 (x_dk dn_314_1_3_ok 10 rfl)))
  (e_Lok (lk_12_161g ho_314 (x_dk dn_314_1_3_ok 11 rfl))))))
  (e_Tok2
  (e_Tok2
  (e_Lok (ld_iload_13 (x_dk dn_314_1_3_ok 12 rfl)))
  (e_Tok2
  (e_Lok (ps_iconst_3 (x_dk dn_314_1_3_ok 13 rfl)))
  (e_Lok (e_st (I := eI) (er_icmpne (off := 8) (tg := 323) (x_dk dn_314_1_3_ok 14 rfl) (by decide)) nx_if2))))
  (e_Tok2
  (e_Tok2
  (e_Lok (ld_iload_10 (x_dk dn_314_1_3_ok 15 rfl)))
  (e_Lok (e_st (I := eI) (er_goto (off := 5) (tg := 325) (x_dk dn_314_1_3_ok 16 rfl) (by decide)) nx_goto)))
  (e_Tok2
  (e_Lok (ld_iload_8 (x_dk dn_314_1_3_ok 17 rfl)))
  (e_Lok (ld_iload_13 (x_dk dn_314_1_3_ok 18 rfl))))))))
def te_314_194 : Nat → eE := (e_T 356 (e_T 340 (e_T 331 (e_T 327 (e_L 327 (0, ei_push (0, 1) 328, 0, 0)) (e_T 328 (e_L 328 (0, ei_if2 1 336 331, 0, 0)) (e_L 331 (0, ei_load 11 0 333, 0, 0)))) (e_T 336 (e_T 333 (e_L 333 (0, ei_goto 338, 0, 0)) (e_L 336 (0, ei_load 9 0 338, 0, 0))) (e_T 338 (e_L 338 (0, ei_load 13 0 340, 0, 0)) (e_L 340 (0, ei_push (0, 2) 341, 0, 0))))) (e_T 346 (e_T 341 (e_L 341 (0, ei_if2 1 349 344, 0, 0)) (e_T 344 (e_L 344 (0, ei_load 8 0 346, 0, 0)) (e_L 346 (0, ei_goto 351, 0, 0)))) (e_T 351 (e_T 349 (e_L 349 (0, ei_load 10 0 351, 0, 0)) (e_L 351 (0, ei_load 13 0 353, 0, 0))) (e_T 353 (e_L 353 (0, ei_if1 1 361 356, 0, 0)) (e_L 356 (0, ei_load 9 0 358, 0, 0)))))) (e_T 371 (e_T 363 (e_T 358 (e_L 358 (0, ei_goto 363, 0, 0)) (e_T 361 (e_L 361 (0, ei_load 11 0 363, 0, 0)) (e_L 363 (2, e_nof, 311, 6)))) (e_T 367 (e_T 366 (e_L 366 (0, ei_load 0 2 367, 0, 0)) (e_L 367 (0, ei_getf eft elay 12 61 370, 0, 0))) (e_T 370 (e_L 370 (0, ei_load 0 2 371, 0, 0)) (e_L 371 (0, ei_getf eft elay 12 62 374, 0, 0))))) (e_T 379 (e_T 374 (e_L 374 (0, ei_load 6 1 376, 0, 0)) (e_T 376 (e_L 376 (2, e_nof, 310, 3)) (e_L 379 (0, ei_stor 12 0 381, 0, 0)))) (e_T 384 (e_T 381 (e_L 381 (0, ei_inc 13 1 384, 0, 0)) (e_L 384 (0, ei_goto 296, 0, 0))) (e_T 387 (e_L 387 (0, ei_load 12 0 389, 0, 0)) (e_L 389 (1, e_nof, 4, 0)))))))
set_option maxRecDepth 20000 in
set_option maxHeartbeats 4000000 in
theorem te_314_194_ok : ∀ pc, e_EOq eft cls elay eI n_314 pc (te_314_194 pc) :=
  (e_Tok2
  (e_Tok2
  (e_Tok2
  (e_Tok2
  (e_Lok (ps_iconst_1 (x_dk dn_314_1_3_ok 19 rfl)))
  (e_Tok2
  (e_Lok (e_st (I := eI) (er_icmpne (off := 8) (tg := 336) (x_dk dn_314_1_3_ok 20 rfl) (by decide)) nx_if2))
  (e_Lok (ld_iload_11 (x_dk dn_314_1_3_ok 21 rfl)))))
  (e_Tok2
  (e_Tok2
  (e_Lok (e_st (I := eI) (er_goto (off := 5) (tg := 338) (x_dk dn_314_1_3_ok 22 rfl) (by decide)) nx_goto))
  (e_Lok (ld_iload_9 (x_dk dn_314_1_3_ok 23 rfl))))
  (e_Tok2
  (e_Lok (ld_iload_13 (x_dk dn_314_1_3_ok 24 rfl)))
  (e_Lok (ps_iconst_2 (x_dk dn_314_2_0_ok 0 rfl))))))
  (e_Tok2
  (e_Tok2
  (e_Lok (e_st (I := eI) (er_icmpne (off := 8) (tg := 349) (x_dk dn_314_2_0_ok 1 rfl) (by decide)) nx_if2))
  (e_Tok2
  (e_Lok (ld_iload_8 (x_dk dn_314_2_0_ok 2 rfl)))
  (e_Lok (e_st (I := eI) (er_goto (off := 5) (tg := 351) (x_dk dn_314_2_0_ok 3 rfl) (by decide)) nx_goto))))
  (e_Tok2
  (e_Tok2
  (e_Lok (ld_iload_10 (x_dk dn_314_2_0_ok 4 rfl)))
  (e_Lok (ld_iload_13 (x_dk dn_314_2_0_ok 5 rfl))))
  (e_Tok2
  (e_Lok (e_st (I := eI) (er_ifne (off := 8) (tg := 361) (x_dk dn_314_2_0_ok 6 rfl) (by decide)) nx_if1))
  (e_Lok (ld_iload_9 (x_dk dn_314_2_0_ok 7 rfl)))))))
  (e_Tok2
  (e_Tok2
  (e_Tok2
  (e_Lok (e_st (I := eI) (er_goto (off := 5) (tg := 363) (x_dk dn_314_2_0_ok 8 rfl) (by decide)) nx_goto))
  (e_Tok2
  (e_Lok (ld_iload_11 (x_dk dn_314_2_0_ok 9 rfl)))
  (e_Lok (lk_12_428 ho_314 (x_dk dn_314_2_0_ok 10 rfl)))))
  (e_Tok2
  (e_Tok2
  (e_Lok (ld_aload_n_0 (x_dk dn_314_2_0_ok 11 rfl)))
  (e_Lok (lk_12_158g ho_314 (x_dk dn_314_2_0_ok 12 rfl))))
  (e_Tok2
  (e_Lok (ld_aload_n_0 (x_dk dn_314_2_0_ok 13 rfl)))
  (e_Lok (lk_12_161g ho_314 (x_dk dn_314_2_0_ok 14 rfl))))))
  (e_Tok2
  (e_Tok2
  (e_Lok (ld_lload_6 (x_dk dn_314_2_0_ok 15 rfl)))
  (e_Tok2
  (e_Lok (lk_12_439 ho_314 (x_dk dn_314_2_0_ok 16 rfl)))
  (e_Lok (e_st (I := eI) (er_istore (i := 12) (x_dk dn_314_2_0_ok 17 rfl) (by decide +kernel)) nx_stor))))
  (e_Tok2
  (e_Tok2
  (e_Lok (e_st (I := eI) (er_iinc (i := 13) (n := 1) (x_dk dn_314_2_0_ok 18 rfl) (by decide +kernel) (by decide)) nx_inc))
  (e_Lok (e_st (I := eI) (er_goto (off := (-88)) (tg := 296) (x_dk dn_314_2_0_ok 19 rfl) (by decide)) nx_goto)))
  (e_Tok2
  (e_Lok (ld_iload_12 (x_dk dn_314_2_0_ok 20 rfl)))
  (e_Lok (e_rt (I := eI) (k := 4) ⟨(x_dk dn_314_2_0_ok 21 rfl), rfl⟩)))))))
def te_314 : Nat → eE := (e_T 179 (e_T 90 (e_T 44 te_314_0 te_314_27) (e_T 136 te_314_55 te_314_83)) (e_T 274 (e_T 226 te_314_111 te_314_138) (e_T 325 te_314_166 te_314_194)))
theorem te_314_ok : ∀ pc, e_EOq eft cls elay eI n_314 pc (te_314 pc) := (e_Tok2 ((e_Tok2 ((e_Tok2 (te_314_0_ok) (te_314_27_ok))) ((e_Tok2 (te_314_55_ok) (te_314_83_ok))))) ((e_Tok2 ((e_Tok2 (te_314_111_ok) (te_314_138_ok))) ((e_Tok2 (te_314_166_ok) (te_314_194_ok))))))
theorem ho_315 : (xm_y n_315).cls = "RobotCellHouseModel" := rfl
def dn_315_0_0 : List (Nat × Instr × Nat) := [(0, .aload_n 0, 1), (1, .iload_n 1, 1), (2, .invokevirtual 443, 3), (5, .istore 4, 2), (7, .iconst 0, 1), (8, .istore 5, 2), (10, .iload 5, 2), (12, .iload 4, 2), (14, .if_icmp .ge 101, 3), (17, .iload 5, 2), (19, .iconst 2, 1), (20, .iadd, 1), (21, .istore 6, 2), (23, .iload 6, 2), (25, .iload 4, 2), (27, .if_icmp .ge 27, 3), (30, .aload_n 0, 1), (31, .iload_n 1, 1), (32, .iload 5, 2), (34, .iload_n 2, 1), (35, .iload_n 1, 1), (36, .iload 6, 2), (38, .iload_n 2, 1), (39, .iload_n 3, 1), (40, .invokevirtual 446, 3)]
set_option maxRecDepth 20000 in
theorem dn_315_0_0_ok : dn_315_0_0.all (fun q => decide (decode (xm_b n_315) q.1 = .ok (q.2.1, q.2.2))) = true := xa_g_ok (by decide +kernel)
def dn_315_0_1 : List (Nat × Instr × Nat) := [(43, .ifCond .eq 5, 3), (46, .iconst 1, 1), (47, .ireturn, 1), (48, .iinc 6 1, 3), (51, .goto (-28), 3), (54, .iconst 0, 1), (55, .istore 6, 2), (57, .iload 6, 2), (59, .aload_n 0, 1), (60, .getfield 273, 3), (63, .if_icmp .ge 46, 3), (66, .aload_n 0, 1), (67, .getfield 83, 3), (70, .bipush 112, 2), (72, .iload_n 1, 1), (73, .imul, 1), (74, .bipush 16, 2), (76, .iload 5, 2), (78, .imul, 1), (79, .iadd, 1), (80, .iload 6, 2), (82, .iadd, 1), (83, .baload, 1), (84, .ifCond .ne 19, 3), (87, .aload_n 0, 1)]
set_option maxRecDepth 20000 in
theorem dn_315_0_1_ok : dn_315_0_1.all (fun q => decide (decode (xm_b n_315) q.1 = .ok (q.2.1, q.2.2))) = true := xa_g_ok (by decide +kernel)
def dn_315_0_2 : List (Nat × Instr × Nat) := [(88, .iload_n 1, 1), (89, .iload 5, 2), (91, .iload_n 2, 1), (92, .iload 6, 2), (94, .iload_n 3, 1), (95, .invokevirtual 450, 3), (98, .ifCond .eq 5, 3), (101, .iconst 1, 1), (102, .ireturn, 1), (103, .iinc 6 1, 3), (106, .goto (-49), 3), (109, .iinc 5 1, 3), (112, .goto (-102), 3), (115, .iconst 0, 1), (116, .ireturn, 1)]
set_option maxRecDepth 20000 in
theorem dn_315_0_2_ok : dn_315_0_2.all (fun q => decide (decode (xm_b n_315) q.1 = .ok (q.2.1, q.2.2))) = true := xa_g_ok (by decide +kernel)
def te_315_0 : Nat → eE := (e_T 27 (e_T 12 (e_T 5 (e_T 1 (e_T 0 (e_L 0 (0, ei_load 0 2 1, 0, 0)) (e_L 1 (0, ei_load 1 0 2, 0, 0))) (e_T 2 (e_L 2 (2, e_nof, 304, 2)) (e_L 5 (0, ei_stor 4 0 7, 0, 0)))) (e_T 8 (e_T 7 (e_L 7 (0, ei_push (0, 0) 8, 0, 0)) (e_L 8 (0, ei_stor 5 0 10, 0, 0))) (e_T 10 (e_L 10 (0, ei_load 5 0 12, 0, 0)) (e_L 12 (0, ei_load 4 0 14, 0, 0))))) (e_T 20 (e_T 17 (e_T 14 (e_L 14 (0, ei_if2 3 115 17, 0, 0)) (e_L 17 (0, ei_load 5 0 19, 0, 0))) (e_T 19 (e_L 19 (0, ei_push (0, 2) 20, 0, 0)) (e_L 20 (0, ei_bin eF_add 21, 0, 0)))) (e_T 23 (e_T 21 (e_L 21 (0, ei_stor 6 0 23, 0, 0)) (e_L 23 (0, ei_load 6 0 25, 0, 0))) (e_T 25 (e_L 25 (0, ei_load 4 0 27, 0, 0)) (e_L 27 (0, ei_if2 3 54 30, 0, 0)))))) (e_T 39 (e_T 34 (e_T 31 (e_T 30 (e_L 30 (0, ei_load 0 2 31, 0, 0)) (e_L 31 (0, ei_load 1 0 32, 0, 0))) (e_T 32 (e_L 32 (0, ei_load 5 0 34, 0, 0)) (e_L 34 (0, ei_load 2 0 35, 0, 0)))) (e_T 36 (e_T 35 (e_L 35 (0, ei_load 1 0 36, 0, 0)) (e_L 36 (0, ei_load 6 0 38, 0, 0))) (e_T 38 (e_L 38 (0, ei_load 2 0 39, 0, 0)) (e_L 39 (0, ei_load 3 0 40, 0, 0))))) (e_T 47 (e_T 43 (e_T 40 (e_L 40 (2, e_nof, 313, 8)) (e_L 43 (0, ei_if1 0 48 46, 0, 0))) (e_T 46 (e_L 46 (0, ei_push (0, 1) 47, 0, 0)) (e_L 47 (1, e_nof, 4, 0)))) (e_T 51 (e_T 48 (e_L 48 (0, ei_inc 6 1 51, 0, 0)) (e_L 51 (0, ei_goto 23, 0, 0))) (e_T 54 (e_L 54 (0, ei_push (0, 0) 55, 0, 0)) (e_L 55 (0, ei_stor 6 0 57, 0, 0)))))))
set_option maxRecDepth 20000 in
set_option maxHeartbeats 4000000 in
theorem te_315_0_ok : ∀ pc, e_EOq eft cls elay eI n_315 pc (te_315_0 pc) :=
  (e_Tok2
  (e_Tok2
  (e_Tok2
  (e_Tok2
  (e_Tok2
  (e_Lok (ld_aload_n_0 (x_dk dn_315_0_0_ok 0 rfl)))
  (e_Lok (ld_iload_n_1 (x_dk dn_315_0_0_ok 1 rfl))))
  (e_Tok2
  (e_Lok (lk_12_443 ho_315 (x_dk dn_315_0_0_ok 2 rfl)))
  (e_Lok (e_st (I := eI) (er_istore (i := 4) (x_dk dn_315_0_0_ok 3 rfl) (by decide +kernel)) nx_stor))))
  (e_Tok2
  (e_Tok2
  (e_Lok (ps_iconst_0 (x_dk dn_315_0_0_ok 4 rfl)))
  (e_Lok (e_st (I := eI) (er_istore (i := 5) (x_dk dn_315_0_0_ok 5 rfl) (by decide +kernel)) nx_stor)))
  (e_Tok2
  (e_Lok (ld_iload_5 (x_dk dn_315_0_0_ok 6 rfl)))
  (e_Lok (ld_iload_4 (x_dk dn_315_0_0_ok 7 rfl))))))
  (e_Tok2
  (e_Tok2
  (e_Tok2
  (e_Lok (e_st (I := eI) (er_icmpge (off := 101) (tg := 115) (x_dk dn_315_0_0_ok 8 rfl) (by decide)) nx_if2))
  (e_Lok (ld_iload_5 (x_dk dn_315_0_0_ok 9 rfl))))
  (e_Tok2
  (e_Lok (ps_iconst_2 (x_dk dn_315_0_0_ok 10 rfl)))
  (e_Lok (sm_iadd (x_dk dn_315_0_0_ok 11 rfl)))))
  (e_Tok2
  (e_Tok2
  (e_Lok (e_st (I := eI) (er_istore (i := 6) (x_dk dn_315_0_0_ok 12 rfl) (by decide +kernel)) nx_stor))
  (e_Lok (ld_iload_6 (x_dk dn_315_0_0_ok 13 rfl))))
  (e_Tok2
  (e_Lok (ld_iload_4 (x_dk dn_315_0_0_ok 14 rfl)))
  (e_Lok (e_st (I := eI) (er_icmpge (off := 27) (tg := 54) (x_dk dn_315_0_0_ok 15 rfl) (by decide)) nx_if2))))))
  (e_Tok2
  (e_Tok2
  (e_Tok2
  (e_Tok2
  (e_Lok (ld_aload_n_0 (x_dk dn_315_0_0_ok 16 rfl)))
  (e_Lok (ld_iload_n_1 (x_dk dn_315_0_0_ok 17 rfl))))
  (e_Tok2
  (e_Lok (ld_iload_5 (x_dk dn_315_0_0_ok 18 rfl)))
  (e_Lok (ld_iload_n_2 (x_dk dn_315_0_0_ok 19 rfl)))))
  (e_Tok2
  (e_Tok2
  (e_Lok (ld_iload_n_1 (x_dk dn_315_0_0_ok 20 rfl)))
  (e_Lok (ld_iload_6 (x_dk dn_315_0_0_ok 21 rfl))))
  (e_Tok2
  (e_Lok (ld_iload_n_2 (x_dk dn_315_0_0_ok 22 rfl)))
  (e_Lok (ld_iload_n_3 (x_dk dn_315_0_0_ok 23 rfl))))))
  (e_Tok2
  (e_Tok2
  (e_Tok2
  (e_Lok (lk_12_446 ho_315 (x_dk dn_315_0_0_ok 24 rfl)))
  (e_Lok (e_st (I := eI) (er_ifeq (off := 5) (tg := 48) (x_dk dn_315_0_1_ok 0 rfl) (by decide)) nx_if1)))
  (e_Tok2
  (e_Lok (ps_iconst_1 (x_dk dn_315_0_1_ok 1 rfl)))
  (e_Lok (e_rt (I := eI) (k := 4) ⟨(x_dk dn_315_0_1_ok 2 rfl), rfl⟩))))
  (e_Tok2
  (e_Tok2
  (e_Lok (e_st (I := eI) (er_iinc (i := 6) (n := 1) (x_dk dn_315_0_1_ok 3 rfl) (by decide +kernel) (by decide)) nx_inc))
  (e_Lok (e_st (I := eI) (er_goto (off := (-28)) (tg := 23) (x_dk dn_315_0_1_ok 4 rfl) (by decide)) nx_goto)))
  (e_Tok2
  (e_Lok (ps_iconst_0 (x_dk dn_315_0_1_ok 5 rfl)))
  (e_Lok (e_st (I := eI) (er_istore (i := 6) (x_dk dn_315_0_1_ok 6 rfl) (by decide +kernel)) nx_stor)))))))
def te_315_32 : Nat → eE := (e_T 83 (e_T 72 (e_T 63 (e_T 59 (e_T 57 (e_L 57 (0, ei_load 6 0 59, 0, 0)) (e_L 59 (0, ei_load 0 2 60, 0, 0))) (e_T 60 (e_L 60 (0, ei_getf eft elay 12 23 63, 0, 0)) (e_L 63 (0, ei_if2 3 109 66, 0, 0)))) (e_T 67 (e_T 66 (e_L 66 (0, ei_load 0 2 67, 0, 0)) (e_L 67 (0, ei_getf eft elay 12 29 70, 0, 0))) (e_T 70 (e_L 70 (0, ei_push (0, 112) 72, 0, 0)) (e_L 72 (0, ei_load 1 0 73, 0, 0))))) (e_T 78 (e_T 74 (e_T 73 (e_L 73 (0, ei_bin eF_mul 74, 0, 0)) (e_L 74 (0, ei_push (0, 16) 76, 0, 0))) (e_T 76 (e_L 76 (0, ei_load 5 0 78, 0, 0)) (e_L 78 (0, ei_bin eF_mul 79, 0, 0)))) (e_T 80 (e_T 79 (e_L 79 (0, ei_bin eF_add 80, 0, 0)) (e_L 80 (0, ei_load 6 0 82, 0, 0))) (e_T 82 (e_L 82 (0, ei_bin eF_add 83, 0, 0)) (e_L 83 (0, ei_ald elay true 84, 0, 0)))))) (e_T 95 (e_T 89 (e_T 87 (e_T 84 (e_L 84 (0, ei_if1 1 103 87, 0, 0)) (e_L 87 (0, ei_load 0 2 88, 0, 0))) (e_T 88 (e_L 88 (0, ei_load 1 0 89, 0, 0)) (e_L 89 (0, ei_load 5 0 91, 0, 0)))) (e_T 92 (e_T 91 (e_L 91 (0, ei_load 2 0 92, 0, 0)) (e_L 92 (0, ei_load 6 0 94, 0, 0))) (e_T 94 (e_L 94 (0, ei_load 3 0 95, 0, 0)) (e_L 95 (2, e_nof, 314, 6))))) (e_T 103 (e_T 101 (e_T 98 (e_L 98 (0, ei_if1 0 103 101, 0, 0)) (e_L 101 (0, ei_push (0, 1) 102, 0, 0))) (e_T 102 (e_L 102 (1, e_nof, 4, 0)) (e_L 103 (0, ei_inc 6 1 106, 0, 0)))) (e_T 109 (e_T 106 (e_L 106 (0, ei_goto 57, 0, 0)) (e_L 109 (0, ei_inc 5 1 112, 0, 0))) (e_T 112 (e_L 112 (0, ei_goto 10, 0, 0)) (e_T 115 (e_L 115 (0, ei_push (0, 0) 116, 0, 0)) (e_L 116 (1, e_nof, 4, 0))))))))
set_option maxRecDepth 20000 in
set_option maxHeartbeats 4000000 in
theorem te_315_32_ok : ∀ pc, e_EOq eft cls elay eI n_315 pc (te_315_32 pc) :=
  (e_Tok2
  (e_Tok2
  (e_Tok2
  (e_Tok2
  (e_Tok2
  (e_Lok (ld_iload_6 (x_dk dn_315_0_1_ok 7 rfl)))
  (e_Lok (ld_aload_n_0 (x_dk dn_315_0_1_ok 8 rfl))))
  (e_Tok2
  (e_Lok (lk_12_273g ho_315 (x_dk dn_315_0_1_ok 9 rfl)))
  (e_Lok (e_st (I := eI) (er_icmpge (off := 46) (tg := 109) (x_dk dn_315_0_1_ok 10 rfl) (by decide)) nx_if2))))
  (e_Tok2
  (e_Tok2
  (e_Lok (ld_aload_n_0 (x_dk dn_315_0_1_ok 11 rfl)))
  (e_Lok (lk_12_83g ho_315 (x_dk dn_315_0_1_ok 12 rfl))))
  (e_Tok2
  (e_Lok (ps_bipush_112 (x_dk dn_315_0_1_ok 13 rfl)))
  (e_Lok (ld_iload_n_1 (x_dk dn_315_0_1_ok 14 rfl))))))
  (e_Tok2
  (e_Tok2
  (e_Tok2
  (e_Lok (sm_imul (x_dk dn_315_0_1_ok 15 rfl)))
  (e_Lok (ps_bipush_16 (x_dk dn_315_0_1_ok 16 rfl))))
  (e_Tok2
  (e_Lok (ld_iload_5 (x_dk dn_315_0_1_ok 17 rfl)))
  (e_Lok (sm_imul (x_dk dn_315_0_1_ok 18 rfl)))))
  (e_Tok2
  (e_Tok2
  (e_Lok (sm_iadd (x_dk dn_315_0_1_ok 19 rfl)))
  (e_Lok (ld_iload_6 (x_dk dn_315_0_1_ok 20 rfl))))
  (e_Tok2
  (e_Lok (sm_iadd (x_dk dn_315_0_1_ok 21 rfl)))
  (e_Lok (e_st (I := eI) (er_baload (x_dk dn_315_0_1_ok 22 rfl)) nx_ald))))))
  (e_Tok2
  (e_Tok2
  (e_Tok2
  (e_Tok2
  (e_Lok (e_st (I := eI) (er_ifne (off := 19) (tg := 103) (x_dk dn_315_0_1_ok 23 rfl) (by decide)) nx_if1))
  (e_Lok (ld_aload_n_0 (x_dk dn_315_0_1_ok 24 rfl))))
  (e_Tok2
  (e_Lok (ld_iload_n_1 (x_dk dn_315_0_2_ok 0 rfl)))
  (e_Lok (ld_iload_5 (x_dk dn_315_0_2_ok 1 rfl)))))
  (e_Tok2
  (e_Tok2
  (e_Lok (ld_iload_n_2 (x_dk dn_315_0_2_ok 2 rfl)))
  (e_Lok (ld_iload_6 (x_dk dn_315_0_2_ok 3 rfl))))
  (e_Tok2
  (e_Lok (ld_iload_n_3 (x_dk dn_315_0_2_ok 4 rfl)))
  (e_Lok (lk_12_450 ho_315 (x_dk dn_315_0_2_ok 5 rfl))))))
  (e_Tok2
  (e_Tok2
  (e_Tok2
  (e_Lok (e_st (I := eI) (er_ifeq (off := 5) (tg := 103) (x_dk dn_315_0_2_ok 6 rfl) (by decide)) nx_if1))
  (e_Lok (ps_iconst_1 (x_dk dn_315_0_2_ok 7 rfl))))
  (e_Tok2
  (e_Lok (e_rt (I := eI) (k := 4) ⟨(x_dk dn_315_0_2_ok 8 rfl), rfl⟩))
  (e_Lok (e_st (I := eI) (er_iinc (i := 6) (n := 1) (x_dk dn_315_0_2_ok 9 rfl) (by decide +kernel) (by decide)) nx_inc))))
  (e_Tok2
  (e_Tok2
  (e_Lok (e_st (I := eI) (er_goto (off := (-49)) (tg := 57) (x_dk dn_315_0_2_ok 10 rfl) (by decide)) nx_goto))
  (e_Lok (e_st (I := eI) (er_iinc (i := 5) (n := 1) (x_dk dn_315_0_2_ok 11 rfl) (by decide +kernel) (by decide)) nx_inc)))
  (e_Tok2
  (e_Lok (e_st (I := eI) (er_goto (off := (-102)) (tg := 10) (x_dk dn_315_0_2_ok 12 rfl) (by decide)) nx_goto))
  (e_Tok2
  (e_Lok (ps_iconst_0 (x_dk dn_315_0_2_ok 13 rfl)))
  (e_Lok (e_rt (I := eI) (k := 4) ⟨(x_dk dn_315_0_2_ok 14 rfl), rfl⟩))))))))
def te_315 : Nat → eE := (e_T 55 te_315_0 te_315_32)
theorem te_315_ok : ∀ pc, e_EOq eft cls elay eI n_315 pc (te_315 pc) := (e_Tok2 (te_315_0_ok) (te_315_32_ok))
theorem ho_316 : (xm_y n_316).cls = "RobotCellHouseModel" := rfl
def dn_316_0_0 : List (Nat × Instr × Nat) := [(0, .iconst 0, 1), (1, .istore 5, 2), (3, .iload 5, 2), (5, .aload_n 0, 1), (6, .iload_n 1, 1), (7, .invokevirtual 443, 3), (10, .if_icmp .ge 50, 3), (13, .iconst 0, 1), (14, .istore 6, 2), (16, .iload 6, 2), (18, .aload_n 0, 1), (19, .iload_n 3, 1), (20, .invokevirtual 443, 3), (23, .if_icmp .ge 31, 3), (26, .aload_n 0, 1), (27, .iload_n 1, 1), (28, .iload 5, 2), (30, .iload_n 2, 1), (31, .iload_n 3, 1), (32, .iload 6, 2), (34, .bipush 7, 2), (36, .iload_n 3, 1), (37, .imul, 1), (38, .iload 4, 2), (40, .invokevirtual 446, 3)]
set_option maxRecDepth 20000 in
theorem dn_316_0_0_ok : dn_316_0_0.all (fun q => decide (decode (xm_b n_316) q.1 = .ok (q.2.1, q.2.2))) = true := xa_g_ok (by decide +kernel)
def dn_316_0_1 : List (Nat × Instr × Nat) := [(43, .ifCond .eq 5, 3), (46, .iconst 1, 1), (47, .ireturn, 1), (48, .iinc 6 1, 3), (51, .goto (-35), 3), (54, .iinc 5 1, 3), (57, .goto (-54), 3), (60, .iconst 0, 1), (61, .ireturn, 1)]
set_option maxRecDepth 20000 in
theorem dn_316_0_1_ok : dn_316_0_1.all (fun q => decide (decode (xm_b n_316) q.1 = .ok (q.2.1, q.2.2))) = true := xa_g_ok (by decide +kernel)
def te_316_0 : Nat → eE := (e_T 28 (e_T 13 (e_T 5 (e_T 1 (e_T 0 (e_L 0 (0, ei_push (0, 0) 1, 0, 0)) (e_L 1 (0, ei_stor 5 0 3, 0, 0))) (e_T 3 (e_L 3 (0, ei_load 5 0 5, 0, 0)) (e_L 5 (0, ei_load 0 2 6, 0, 0)))) (e_T 7 (e_T 6 (e_L 6 (0, ei_load 1 0 7, 0, 0)) (e_L 7 (2, e_nof, 304, 2))) (e_T 10 (e_L 10 (0, ei_if2 3 60 13, 0, 0)) (e_L 13 (0, ei_push (0, 0) 14, 0, 0))))) (e_T 19 (e_T 16 (e_T 14 (e_L 14 (0, ei_stor 6 0 16, 0, 0)) (e_L 16 (0, ei_load 6 0 18, 0, 0))) (e_T 18 (e_L 18 (0, ei_load 0 2 19, 0, 0)) (e_L 19 (0, ei_load 3 0 20, 0, 0)))) (e_T 23 (e_T 20 (e_L 20 (2, e_nof, 304, 2)) (e_L 23 (0, ei_if2 3 54 26, 0, 0))) (e_T 26 (e_L 26 (0, ei_load 0 2 27, 0, 0)) (e_T 27 (e_L 27 (0, ei_load 1 0 28, 0, 0)) (e_L 28 (0, ei_load 5 0 30, 0, 0))))))) (e_T 40 (e_T 34 (e_T 31 (e_T 30 (e_L 30 (0, ei_load 2 0 31, 0, 0)) (e_L 31 (0, ei_load 3 0 32, 0, 0))) (e_T 32 (e_L 32 (0, ei_load 6 0 34, 0, 0)) (e_L 34 (0, ei_push (0, 7) 36, 0, 0)))) (e_T 37 (e_T 36 (e_L 36 (0, ei_load 3 0 37, 0, 0)) (e_L 37 (0, ei_bin eF_mul 38, 0, 0))) (e_T 38 (e_L 38 (0, ei_load 4 0 40, 0, 0)) (e_L 40 (2, e_nof, 313, 8))))) (e_T 48 (e_T 46 (e_T 43 (e_L 43 (0, ei_if1 0 48 46, 0, 0)) (e_L 46 (0, ei_push (0, 1) 47, 0, 0))) (e_T 47 (e_L 47 (1, e_nof, 4, 0)) (e_L 48 (0, ei_inc 6 1 51, 0, 0)))) (e_T 54 (e_T 51 (e_L 51 (0, ei_goto 16, 0, 0)) (e_L 54 (0, ei_inc 5 1 57, 0, 0))) (e_T 57 (e_L 57 (0, ei_goto 3, 0, 0)) (e_T 60 (e_L 60 (0, ei_push (0, 0) 61, 0, 0)) (e_L 61 (1, e_nof, 4, 0))))))))
set_option maxRecDepth 20000 in
set_option maxHeartbeats 4000000 in
theorem te_316_0_ok : ∀ pc, e_EOq eft cls elay eI n_316 pc (te_316_0 pc) :=
  (e_Tok2
  (e_Tok2
  (e_Tok2
  (e_Tok2
  (e_Tok2
  (e_Lok (ps_iconst_0 (x_dk dn_316_0_0_ok 0 rfl)))
  (e_Lok (e_st (I := eI) (er_istore (i := 5) (x_dk dn_316_0_0_ok 1 rfl) (by decide +kernel)) nx_stor)))
  (e_Tok2
  (e_Lok (ld_iload_5 (x_dk dn_316_0_0_ok 2 rfl)))
  (e_Lok (ld_aload_n_0 (x_dk dn_316_0_0_ok 3 rfl)))))
  (e_Tok2
  (e_Tok2
  (e_Lok (ld_iload_n_1 (x_dk dn_316_0_0_ok 4 rfl)))
  (e_Lok (lk_12_443 ho_316 (x_dk dn_316_0_0_ok 5 rfl))))
  (e_Tok2
  (e_Lok (e_st (I := eI) (er_icmpge (off := 50) (tg := 60) (x_dk dn_316_0_0_ok 6 rfl) (by decide)) nx_if2))
  (e_Lok (ps_iconst_0 (x_dk dn_316_0_0_ok 7 rfl))))))
  (e_Tok2
  (e_Tok2
  (e_Tok2
  (e_Lok (e_st (I := eI) (er_istore (i := 6) (x_dk dn_316_0_0_ok 8 rfl) (by decide +kernel)) nx_stor))
  (e_Lok (ld_iload_6 (x_dk dn_316_0_0_ok 9 rfl))))
  (e_Tok2
  (e_Lok (ld_aload_n_0 (x_dk dn_316_0_0_ok 10 rfl)))
  (e_Lok (ld_iload_n_3 (x_dk dn_316_0_0_ok 11 rfl)))))
  (e_Tok2
  (e_Tok2
  (e_Lok (lk_12_443 ho_316 (x_dk dn_316_0_0_ok 12 rfl)))
  (e_Lok (e_st (I := eI) (er_icmpge (off := 31) (tg := 54) (x_dk dn_316_0_0_ok 13 rfl) (by decide)) nx_if2)))
  (e_Tok2
  (e_Lok (ld_aload_n_0 (x_dk dn_316_0_0_ok 14 rfl)))
  (e_Tok2
  (e_Lok (ld_iload_n_1 (x_dk dn_316_0_0_ok 15 rfl)))
  (e_Lok (ld_iload_5 (x_dk dn_316_0_0_ok 16 rfl))))))))
  (e_Tok2
  (e_Tok2
  (e_Tok2
  (e_Tok2
  (e_Lok (ld_iload_n_2 (x_dk dn_316_0_0_ok 17 rfl)))
  (e_Lok (ld_iload_n_3 (x_dk dn_316_0_0_ok 18 rfl))))
  (e_Tok2
  (e_Lok (ld_iload_6 (x_dk dn_316_0_0_ok 19 rfl)))
  (e_Lok (ps_bipush_7 (x_dk dn_316_0_0_ok 20 rfl)))))
  (e_Tok2
  (e_Tok2
  (e_Lok (ld_iload_n_3 (x_dk dn_316_0_0_ok 21 rfl)))
  (e_Lok (sm_imul (x_dk dn_316_0_0_ok 22 rfl))))
  (e_Tok2
  (e_Lok (ld_iload_4 (x_dk dn_316_0_0_ok 23 rfl)))
  (e_Lok (lk_12_446 ho_316 (x_dk dn_316_0_0_ok 24 rfl))))))
  (e_Tok2
  (e_Tok2
  (e_Tok2
  (e_Lok (e_st (I := eI) (er_ifeq (off := 5) (tg := 48) (x_dk dn_316_0_1_ok 0 rfl) (by decide)) nx_if1))
  (e_Lok (ps_iconst_1 (x_dk dn_316_0_1_ok 1 rfl))))
  (e_Tok2
  (e_Lok (e_rt (I := eI) (k := 4) ⟨(x_dk dn_316_0_1_ok 2 rfl), rfl⟩))
  (e_Lok (e_st (I := eI) (er_iinc (i := 6) (n := 1) (x_dk dn_316_0_1_ok 3 rfl) (by decide +kernel) (by decide)) nx_inc))))
  (e_Tok2
  (e_Tok2
  (e_Lok (e_st (I := eI) (er_goto (off := (-35)) (tg := 16) (x_dk dn_316_0_1_ok 4 rfl) (by decide)) nx_goto))
  (e_Lok (e_st (I := eI) (er_iinc (i := 5) (n := 1) (x_dk dn_316_0_1_ok 5 rfl) (by decide +kernel) (by decide)) nx_inc)))
  (e_Tok2
  (e_Lok (e_st (I := eI) (er_goto (off := (-54)) (tg := 3) (x_dk dn_316_0_1_ok 6 rfl) (by decide)) nx_goto))
  (e_Tok2
  (e_Lok (ps_iconst_0 (x_dk dn_316_0_1_ok 7 rfl)))
  (e_Lok (e_rt (I := eI) (k := 4) ⟨(x_dk dn_316_0_1_ok 8 rfl), rfl⟩))))))))
def te_316 : Nat → eE := te_316_0
theorem te_316_ok : ∀ pc, e_EOq eft cls elay eI n_316 pc (te_316 pc) := te_316_0_ok
theorem ho_317 : (xm_y n_317).cls = "RobotCellHouseModel" := rfl
def dn_317_0_0 : List (Nat × Instr × Nat) := [(0, .aload_n 0, 1), (1, .iload_n 1, 1), (2, .iload_n 2, 1), (3, .iload_n 3, 1), (4, .invokevirtual 454, 3), (7, .istore 4, 2), (9, .iconst 0, 1), (10, .istore 5, 2), (12, .iload 5, 2), (14, .aload_n 0, 1), (15, .getfield 269, 3), (18, .if_icmp .ge 39, 3), (21, .iload 4, 2), (23, .ifCond .ne 34, 3), (26, .iload 5, 2), (28, .iload_n 1, 1), (29, .if_icmp .eq 19, 3), (32, .aload_n 0, 1), (33, .iload_n 1, 1), (34, .iload_n 2, 1), (35, .iload 5, 2), (37, .iload_n 3, 1), (38, .invokevirtual 458, 3), (41, .ifCond .eq 7, 3), (44, .iconst 1, 1)]
set_option maxRecDepth 20000 in
theorem dn_317_0_0_ok : dn_317_0_0.all (fun q => decide (decode (xm_b n_317) q.1 = .ok (q.2.1, q.2.2))) = true := xa_g_ok (by decide +kernel)
def dn_317_0_1 : List (Nat × Instr × Nat) := [(45, .goto 4, 3), (48, .iconst 0, 1), (49, .istore 4, 2), (51, .iinc 5 1, 3), (54, .goto (-42), 3), (57, .iload 4, 2), (59, .ireturn, 1)]
set_option maxRecDepth 20000 in
theorem dn_317_0_1_ok : dn_317_0_1.all (fun q => decide (decode (xm_b n_317) q.1 = .ok (q.2.1, q.2.2))) = true := xa_g_ok (by decide +kernel)
def te_317_0 : Nat → eE := (e_T 28 (e_T 10 (e_T 3 (e_T 1 (e_T 0 (e_L 0 (0, ei_load 0 2 1, 0, 0)) (e_L 1 (0, ei_load 1 0 2, 0, 0))) (e_T 2 (e_L 2 (0, ei_load 2 0 3, 0, 0)) (e_L 3 (0, ei_load 3 0 4, 0, 0)))) (e_T 7 (e_T 4 (e_L 4 (2, e_nof, 315, 4)) (e_L 7 (0, ei_stor 4 0 9, 0, 0))) (e_T 9 (e_L 9 (0, ei_push (0, 0) 10, 0, 0)) (e_L 10 (0, ei_stor 5 0 12, 0, 0))))) (e_T 18 (e_T 14 (e_T 12 (e_L 12 (0, ei_load 5 0 14, 0, 0)) (e_L 14 (0, ei_load 0 2 15, 0, 0))) (e_T 15 (e_L 15 (0, ei_getf eft elay 12 10 18, 0, 0)) (e_L 18 (0, ei_if2 3 57 21, 0, 0)))) (e_T 23 (e_T 21 (e_L 21 (0, ei_load 4 0 23, 0, 0)) (e_L 23 (0, ei_if1 1 57 26, 0, 0))) (e_T 26 (e_L 26 (0, ei_load 5 0 28, 0, 0)) (e_L 28 (0, ei_load 1 0 29, 0, 0)))))) (e_T 41 (e_T 34 (e_T 32 (e_T 29 (e_L 29 (0, ei_if2 0 48 32, 0, 0)) (e_L 32 (0, ei_load 0 2 33, 0, 0))) (e_T 33 (e_L 33 (0, ei_load 1 0 34, 0, 0)) (e_L 34 (0, ei_load 2 0 35, 0, 0)))) (e_T 37 (e_T 35 (e_L 35 (0, ei_load 5 0 37, 0, 0)) (e_L 37 (0, ei_load 3 0 38, 0, 0))) (e_T 38 (e_L 38 (2, e_nof, 316, 5)) (e_L 41 (0, ei_if1 0 48 44, 0, 0))))) (e_T 49 (e_T 45 (e_T 44 (e_L 44 (0, ei_push (0, 1) 45, 0, 0)) (e_L 45 (0, ei_goto 49, 0, 0))) (e_T 48 (e_L 48 (0, ei_push (0, 0) 49, 0, 0)) (e_L 49 (0, ei_stor 4 0 51, 0, 0)))) (e_T 54 (e_T 51 (e_L 51 (0, ei_inc 5 1 54, 0, 0)) (e_L 54 (0, ei_goto 12, 0, 0))) (e_T 57 (e_L 57 (0, ei_load 4 0 59, 0, 0)) (e_L 59 (1, e_nof, 4, 0)))))))
set_option maxRecDepth 20000 in
set_option maxHeartbeats 4000000 in
theorem te_317_0_ok : ∀ pc, e_EOq eft cls elay eI n_317 pc (te_317_0 pc) :=
  (e_Tok2
  (e_Tok2
  (e_Tok2
  (e_Tok2
  (e_Tok2
  (e_Lok (ld_aload_n_0 (x_dk dn_317_0_0_ok 0 rfl)))
  (e_Lok (ld_iload_n_1 (x_dk dn_317_0_0_ok 1 rfl))))
  (e_Tok2
  (e_Lok (ld_iload_n_2 (x_dk dn_317_0_0_ok 2 rfl)))
  (e_Lok (ld_iload_n_3 (x_dk dn_317_0_0_ok 3 rfl)))))
  (e_Tok2
  (e_Tok2
  (e_Lok (lk_12_454 ho_317 (x_dk dn_317_0_0_ok 4 rfl)))
  (e_Lok (e_st (I := eI) (er_istore (i := 4) (x_dk dn_317_0_0_ok 5 rfl) (by decide +kernel)) nx_stor)))
  (e_Tok2
  (e_Lok (ps_iconst_0 (x_dk dn_317_0_0_ok 6 rfl)))
  (e_Lok (e_st (I := eI) (er_istore (i := 5) (x_dk dn_317_0_0_ok 7 rfl) (by decide +kernel)) nx_stor)))))
  (e_Tok2
  (e_Tok2
  (e_Tok2
  (e_Lok (ld_iload_5 (x_dk dn_317_0_0_ok 8 rfl)))
  (e_Lok (ld_aload_n_0 (x_dk dn_317_0_0_ok 9 rfl))))
  (e_Tok2
  (e_Lok (lk_12_269g ho_317 (x_dk dn_317_0_0_ok 10 rfl)))
  (e_Lok (e_st (I := eI) (er_icmpge (off := 39) (tg := 57) (x_dk dn_317_0_0_ok 11 rfl) (by decide)) nx_if2))))
  (e_Tok2
  (e_Tok2
  (e_Lok (ld_iload_4 (x_dk dn_317_0_0_ok 12 rfl)))
  (e_Lok (e_st (I := eI) (er_ifne (off := 34) (tg := 57) (x_dk dn_317_0_0_ok 13 rfl) (by decide)) nx_if1)))
  (e_Tok2
  (e_Lok (ld_iload_5 (x_dk dn_317_0_0_ok 14 rfl)))
  (e_Lok (ld_iload_n_1 (x_dk dn_317_0_0_ok 15 rfl)))))))
  (e_Tok2
  (e_Tok2
  (e_Tok2
  (e_Tok2
  (e_Lok (e_st (I := eI) (er_icmpeq (off := 19) (tg := 48) (x_dk dn_317_0_0_ok 16 rfl) (by decide)) nx_if2))
  (e_Lok (ld_aload_n_0 (x_dk dn_317_0_0_ok 17 rfl))))
  (e_Tok2
  (e_Lok (ld_iload_n_1 (x_dk dn_317_0_0_ok 18 rfl)))
  (e_Lok (ld_iload_n_2 (x_dk dn_317_0_0_ok 19 rfl)))))
  (e_Tok2
  (e_Tok2
  (e_Lok (ld_iload_5 (x_dk dn_317_0_0_ok 20 rfl)))
  (e_Lok (ld_iload_n_3 (x_dk dn_317_0_0_ok 21 rfl))))
  (e_Tok2
  (e_Lok (lk_12_458 ho_317 (x_dk dn_317_0_0_ok 22 rfl)))
  (e_Lok (e_st (I := eI) (er_ifeq (off := 7) (tg := 48) (x_dk dn_317_0_0_ok 23 rfl) (by decide)) nx_if1)))))
  (e_Tok2
  (e_Tok2
  (e_Tok2
  (e_Lok (ps_iconst_1 (x_dk dn_317_0_0_ok 24 rfl)))
  (e_Lok (e_st (I := eI) (er_goto (off := 4) (tg := 49) (x_dk dn_317_0_1_ok 0 rfl) (by decide)) nx_goto)))
  (e_Tok2
  (e_Lok (ps_iconst_0 (x_dk dn_317_0_1_ok 1 rfl)))
  (e_Lok (e_st (I := eI) (er_istore (i := 4) (x_dk dn_317_0_1_ok 2 rfl) (by decide +kernel)) nx_stor))))
  (e_Tok2
  (e_Tok2
  (e_Lok (e_st (I := eI) (er_iinc (i := 5) (n := 1) (x_dk dn_317_0_1_ok 3 rfl) (by decide +kernel) (by decide)) nx_inc))
  (e_Lok (e_st (I := eI) (er_goto (off := (-42)) (tg := 12) (x_dk dn_317_0_1_ok 4 rfl) (by decide)) nx_goto)))
  (e_Tok2
  (e_Lok (ld_iload_4 (x_dk dn_317_0_1_ok 5 rfl)))
  (e_Lok (e_rt (I := eI) (k := 4) ⟨(x_dk dn_317_0_1_ok 6 rfl), rfl⟩)))))))
def te_317 : Nat → eE := te_317_0
theorem te_317_ok : ∀ pc, e_EOq eft cls elay eI n_317 pc (te_317 pc) := te_317_0_ok
theorem ho_318 : (xm_y n_318).cls = "RobotCellHouseModel" := rfl
def dn_318_0_0 : List (Nat × Instr × Nat) := [(0, .aload_n 0, 1), (1, .iload_n 1, 1), (2, .invokevirtual 305, 3), (5, .ifCond .eq 15, 3), (8, .iload_n 2, 1), (9, .i2l, 1), (10, .lconst 0, 1), (11, .ldc2_w 336, 3), (14, .invokestatic 301, 3), (17, .ifCond .ne 5, 3), (20, .iconst (-1), 1), (21, .ireturn, 1), (22, .aload_n 0, 1), (23, .invokevirtual 401, 3), (26, .aload_n 0, 1), (27, .iload_n 1, 1), (28, .bipush 7, 2), (30, .iload_n 1, 1), (31, .imul, 1), (32, .iload_n 2, 1), (33, .invokevirtual 461, 3), (36, .ifCond .eq 7, 3), (39, .iconst 1, 1), (40, .goto 4, 3), (43, .iconst 0, 1)]
set_option maxRecDepth 20000 in
theorem dn_318_0_0_ok : dn_318_0_0.all (fun q => decide (decode (xm_b n_318) q.1 = .ok (q.2.1, q.2.2))) = true := xa_g_ok (by decide +kernel)
def dn_318_0_1 : List (Nat × Instr × Nat) := [(44, .ireturn, 1)]
set_option maxRecDepth 20000 in
theorem dn_318_0_1_ok : dn_318_0_1.all (fun q => decide (decode (xm_b n_318) q.1 = .ok (q.2.1, q.2.2))) = true := xa_g_ok (by decide +kernel)
def te_318_0 : Nat → eE := (e_T 22 (e_T 9 (e_T 2 (e_T 0 (e_L 0 (0, ei_load 0 2 1, 0, 0)) (e_T 1 (e_L 1 (0, ei_load 1 0 2, 0, 0)) (e_L 2 (2, e_nof, 270, 2)))) (e_T 5 (e_L 5 (0, ei_if1 0 20 8, 0, 0)) (e_T 8 (e_L 8 (0, ei_load 2 0 9, 0, 0)) (e_L 9 (0, ei_un (fun x => (4, x)) 10, 0, 0))))) (e_T 14 (e_T 10 (e_L 10 (0, ei_push (4, 0) 11, 0, 0)) (e_T 11 (e_L 11 (0, ei_push (4, 2000) 14, 0, 0)) (e_L 14 (2, e_nof, 266, 3)))) (e_T 20 (e_T 17 (e_L 17 (0, ei_if1 1 22 20, 0, 0)) (e_L 20 (0, ei_push (0, (-1)) 21, 0, 0))) (e_T 21 (e_L 21 (1, e_nof, 1, 0)) (e_L 22 (0, ei_load 0 2 23, 0, 0)))))) (e_T 31 (e_T 27 (e_T 23 (e_L 23 (2, e_nof, 302, 1)) (e_T 26 (e_L 26 (0, ei_load 0 2 27, 0, 0)) (e_L 27 (0, ei_load 1 0 28, 0, 0)))) (e_T 28 (e_L 28 (0, ei_push (0, 7) 30, 0, 0)) (e_T 30 (e_L 30 (0, ei_load 1 0 31, 0, 0)) (e_L 31 (0, ei_bin eF_mul 32, 0, 0))))) (e_T 36 (e_T 32 (e_L 32 (0, ei_load 2 0 33, 0, 0)) (e_T 33 (e_L 33 (2, e_nof, 317, 4)) (e_L 36 (0, ei_if1 0 43 39, 0, 0)))) (e_T 40 (e_T 39 (e_L 39 (0, ei_push (0, 1) 40, 0, 0)) (e_L 40 (0, ei_goto 44, 0, 0))) (e_T 43 (e_L 43 (0, ei_push (0, 0) 44, 0, 0)) (e_L 44 (1, e_nof, 1, 0)))))))
set_option maxRecDepth 20000 in
set_option maxHeartbeats 4000000 in
theorem te_318_0_ok : ∀ pc, e_EOq eft cls elay eI n_318 pc (te_318_0 pc) :=
  (e_Tok2
  (e_Tok2
  (e_Tok2
  (e_Tok2
  (e_Lok (ld_aload_n_0 (x_dk dn_318_0_0_ok 0 rfl)))
  (e_Tok2
  (e_Lok (ld_iload_n_1 (x_dk dn_318_0_0_ok 1 rfl)))
  (e_Lok (lk_12_305 ho_318 (x_dk dn_318_0_0_ok 2 rfl)))))
  (e_Tok2
  (e_Lok (e_st (I := eI) (er_ifeq (off := 15) (tg := 20) (x_dk dn_318_0_0_ok 3 rfl) (by decide)) nx_if1))
  (e_Tok2
  (e_Lok (ld_iload_n_2 (x_dk dn_318_0_0_ok 4 rfl)))
  (e_Lok (e_st (I := eI) (er_i2l (x_dk dn_318_0_0_ok 5 rfl)) (nx_un (fun _ => rfl)))))))
  (e_Tok2
  (e_Tok2
  (e_Lok (ps_lconst_0 (x_dk dn_318_0_0_ok 6 rfl)))
  (e_Tok2
  (e_Lok (e_st (I := eI) (er_ldc2 (ix := 336) (z := 2000) (v := 2000) (x_dk dn_318_0_0_ok 7 rfl) (in_t11 (List.mem_of_getElem? (i := 41) rfl) rfl) (by decide)) (nx_push (Or.inl rfl))))
  (e_Lok (lk_12_301 ho_318 (x_dk dn_318_0_0_ok 8 rfl)))))
  (e_Tok2
  (e_Tok2
  (e_Lok (e_st (I := eI) (er_ifne (off := 5) (tg := 22) (x_dk dn_318_0_0_ok 9 rfl) (by decide)) nx_if1))
  (e_Lok (ps_iconst_m1 (x_dk dn_318_0_0_ok 10 rfl))))
  (e_Tok2
  (e_Lok (e_rt (I := eI) (k := 1) ⟨(x_dk dn_318_0_0_ok 11 rfl), rfl⟩))
  (e_Lok (ld_aload_n_0 (x_dk dn_318_0_0_ok 12 rfl)))))))
  (e_Tok2
  (e_Tok2
  (e_Tok2
  (e_Lok (lk_12_401 ho_318 (x_dk dn_318_0_0_ok 13 rfl)))
  (e_Tok2
  (e_Lok (ld_aload_n_0 (x_dk dn_318_0_0_ok 14 rfl)))
  (e_Lok (ld_iload_n_1 (x_dk dn_318_0_0_ok 15 rfl)))))
  (e_Tok2
  (e_Lok (ps_bipush_7 (x_dk dn_318_0_0_ok 16 rfl)))
  (e_Tok2
  (e_Lok (ld_iload_n_1 (x_dk dn_318_0_0_ok 17 rfl)))
  (e_Lok (sm_imul (x_dk dn_318_0_0_ok 18 rfl))))))
  (e_Tok2
  (e_Tok2
  (e_Lok (ld_iload_n_2 (x_dk dn_318_0_0_ok 19 rfl)))
  (e_Tok2
  (e_Lok (lk_12_461 ho_318 (x_dk dn_318_0_0_ok 20 rfl)))
  (e_Lok (e_st (I := eI) (er_ifeq (off := 7) (tg := 43) (x_dk dn_318_0_0_ok 21 rfl) (by decide)) nx_if1))))
  (e_Tok2
  (e_Tok2
  (e_Lok (ps_iconst_1 (x_dk dn_318_0_0_ok 22 rfl)))
  (e_Lok (e_st (I := eI) (er_goto (off := 4) (tg := 44) (x_dk dn_318_0_0_ok 23 rfl) (by decide)) nx_goto)))
  (e_Tok2
  (e_Lok (ps_iconst_0 (x_dk dn_318_0_0_ok 24 rfl)))
  (e_Lok (e_rt (I := eI) (k := 1) ⟨(x_dk dn_318_0_1_ok 0 rfl), rfl⟩)))))))
def te_318 : Nat → eE := te_318_0
theorem te_318_ok : ∀ pc, e_EOq eft cls elay eI n_318 pc (te_318 pc) := te_318_0_ok
theorem ho_319 : (xm_y n_319).cls = "RobotCellHouseModel" := rfl
def dn_319_0_0 : List (Nat × Instr × Nat) := [(0, .aload_n 0, 1), (1, .getfield 8, 3), (4, .iconst 5, 1), (5, .iaload, 1), (6, .sipush 2000, 3), (9, .if_icmp .ge 60, 3), (12, .sipush 25060, 3), (15, .iconst 4, 1), (16, .aload_n 0, 1), (17, .getfield 8, 3), (20, .iconst 5, 1), (21, .iaload, 1), (22, .imul, 1), (23, .iadd, 1), (24, .istore 4, 2), (26, .aload_n 0, 1), (27, .getfield 8, 3), (30, .iload 4, 2), (32, .aload_n 0, 1), (33, .getfield 8, 3), (36, .iconst 0, 1), (37, .iaload, 1), (38, .iastore, 1), (39, .aload_n 0, 1), (40, .getfield 8, 3)]
set_option maxRecDepth 20000 in
theorem dn_319_0_0_ok : dn_319_0_0.all (fun q => decide (decode (xm_b n_319) q.1 = .ok (q.2.1, q.2.2))) = true := xa_g_ok (by decide +kernel)
def dn_319_0_1 : List (Nat × Instr × Nat) := [(43, .iload 4, 2), (45, .iconst 1, 1), (46, .iadd, 1), (47, .iload_n 1, 1), (48, .iastore, 1), (49, .aload_n 0, 1), (50, .getfield 8, 3), (53, .iload 4, 2), (55, .iconst 2, 1), (56, .iadd, 1), (57, .iload_n 2, 1), (58, .iastore, 1), (59, .aload_n 0, 1), (60, .getfield 8, 3), (63, .iload 4, 2), (65, .iconst 3, 1), (66, .iadd, 1), (67, .iload_n 3, 1), (68, .iastore, 1), (69, .aload_n 0, 1), (70, .getfield 8, 3), (73, .iconst 5, 1), (74, .dup2, 1), (75, .iaload, 1), (76, .iconst 1, 1)]
set_option maxRecDepth 20000 in
theorem dn_319_0_1_ok : dn_319_0_1.all (fun q => decide (decode (xm_b n_319) q.1 = .ok (q.2.1, q.2.2))) = true := xa_g_ok (by decide +kernel)
def dn_319_0_2 : List (Nat × Instr × Nat) := [(77, .iadd, 1), (78, .iastore, 1), (79, .return_, 1)]
set_option maxRecDepth 20000 in
theorem dn_319_0_2_ok : dn_319_0_2.all (fun q => decide (decode (xm_b n_319) q.1 = .ok (q.2.1, q.2.2))) = true := xa_g_ok (by decide +kernel)
def te_319_0 : Nat → eE := (e_T 22 (e_T 9 (e_T 4 (e_T 0 (e_L 0 (0, ei_load 0 2 1, 0, 0)) (e_T 1 (e_L 1 (0, ei_getf eft elay 12 0 4, 0, 0)) (e_L 4 (0, ei_push (0, 5) 5, 0, 0)))) (e_T 5 (e_L 5 (0, ei_ald elay false 6, 0, 0)) (e_T 6 (e_L 6 (0, ei_push (0, 2000) 9, 0, 0)) (e_L 9 (0, ei_if2 3 69 12, 0, 0))))) (e_T 16 (e_T 12 (e_L 12 (0, ei_push (0, 25060) 15, 0, 0)) (e_T 15 (e_L 15 (0, ei_push (0, 4) 16, 0, 0)) (e_L 16 (0, ei_load 0 2 17, 0, 0)))) (e_T 20 (e_T 17 (e_L 17 (0, ei_getf eft elay 12 0 20, 0, 0)) (e_L 20 (0, ei_push (0, 5) 21, 0, 0))) (e_T 21 (e_L 21 (0, ei_ald elay false 22, 0, 0)) (e_L 22 (0, ei_bin eF_mul 23, 0, 0)))))) (e_T 32 (e_T 26 (e_T 23 (e_L 23 (0, ei_bin eF_add 24, 0, 0)) (e_T 24 (e_L 24 (0, ei_stor 4 0 26, 0, 0)) (e_L 26 (0, ei_load 0 2 27, 0, 0)))) (e_T 27 (e_L 27 (0, ei_getf eft elay 12 0 30, 0, 0)) (e_T 30 (e_L 30 (0, ei_load 4 0 32, 0, 0)) (e_L 32 (0, ei_load 0 2 33, 0, 0))))) (e_T 37 (e_T 33 (e_L 33 (0, ei_getf eft elay 12 0 36, 0, 0)) (e_T 36 (e_L 36 (0, ei_push (0, 0) 37, 0, 0)) (e_L 37 (0, ei_ald elay false 38, 0, 0)))) (e_T 39 (e_T 38 (e_L 38 (0, ei_ast elay false 39, 0, 0)) (e_L 39 (0, ei_load 0 2 40, 0, 0))) (e_T 40 (e_L 40 (0, ei_getf eft elay 12 0 43, 0, 0)) (e_L 43 (0, ei_load 4 0 45, 0, 0)))))))
set_option maxRecDepth 20000 in
set_option maxHeartbeats 4000000 in
theorem te_319_0_ok : ∀ pc, e_EOq eft cls elay eI n_319 pc (te_319_0 pc) :=
  (e_Tok2
  (e_Tok2
  (e_Tok2
  (e_Tok2
  (e_Lok (ld_aload_n_0 (x_dk dn_319_0_0_ok 0 rfl)))
  (e_Tok2
  (e_Lok (lk_12_8g ho_319 (x_dk dn_319_0_0_ok 1 rfl)))
  (e_Lok (ps_iconst_5 (x_dk dn_319_0_0_ok 2 rfl)))))
  (e_Tok2
  (e_Lok (sm_iaload (x_dk dn_319_0_0_ok 3 rfl)))
  (e_Tok2
  (e_Lok (ps_sipush_2000 (x_dk dn_319_0_0_ok 4 rfl)))
  (e_Lok (e_st (I := eI) (er_icmpge (off := 60) (tg := 69) (x_dk dn_319_0_0_ok 5 rfl) (by decide)) nx_if2)))))
  (e_Tok2
  (e_Tok2
  (e_Lok (ps_sipush_25060 (x_dk dn_319_0_0_ok 6 rfl)))
  (e_Tok2
  (e_Lok (ps_iconst_4 (x_dk dn_319_0_0_ok 7 rfl)))
  (e_Lok (ld_aload_n_0 (x_dk dn_319_0_0_ok 8 rfl)))))
  (e_Tok2
  (e_Tok2
  (e_Lok (lk_12_8g ho_319 (x_dk dn_319_0_0_ok 9 rfl)))
  (e_Lok (ps_iconst_5 (x_dk dn_319_0_0_ok 10 rfl))))
  (e_Tok2
  (e_Lok (sm_iaload (x_dk dn_319_0_0_ok 11 rfl)))
  (e_Lok (sm_imul (x_dk dn_319_0_0_ok 12 rfl)))))))
  (e_Tok2
  (e_Tok2
  (e_Tok2
  (e_Lok (sm_iadd (x_dk dn_319_0_0_ok 13 rfl)))
  (e_Tok2
  (e_Lok (e_st (I := eI) (er_istore (i := 4) (x_dk dn_319_0_0_ok 14 rfl) (by decide +kernel)) nx_stor))
  (e_Lok (ld_aload_n_0 (x_dk dn_319_0_0_ok 15 rfl)))))
  (e_Tok2
  (e_Lok (lk_12_8g ho_319 (x_dk dn_319_0_0_ok 16 rfl)))
  (e_Tok2
  (e_Lok (ld_iload_4 (x_dk dn_319_0_0_ok 17 rfl)))
  (e_Lok (ld_aload_n_0 (x_dk dn_319_0_0_ok 18 rfl))))))
  (e_Tok2
  (e_Tok2
  (e_Lok (lk_12_8g ho_319 (x_dk dn_319_0_0_ok 19 rfl)))
  (e_Tok2
  (e_Lok (ps_iconst_0 (x_dk dn_319_0_0_ok 20 rfl)))
  (e_Lok (sm_iaload (x_dk dn_319_0_0_ok 21 rfl)))))
  (e_Tok2
  (e_Tok2
  (e_Lok (sm_iastore (x_dk dn_319_0_0_ok 22 rfl)))
  (e_Lok (ld_aload_n_0 (x_dk dn_319_0_0_ok 23 rfl))))
  (e_Tok2
  (e_Lok (lk_12_8g ho_319 (x_dk dn_319_0_0_ok 24 rfl)))
  (e_Lok (ld_iload_4 (x_dk dn_319_0_1_ok 0 rfl))))))))
def te_319_26 : Nat → eE := (e_T 60 (e_T 50 (e_T 47 (e_T 45 (e_L 45 (0, ei_push (0, 1) 46, 0, 0)) (e_T 46 (e_L 46 (0, ei_bin eF_add 47, 0, 0)) (e_L 47 (0, ei_load 1 0 48, 0, 0)))) (e_T 48 (e_L 48 (0, ei_ast elay false 49, 0, 0)) (e_T 49 (e_L 49 (0, ei_load 0 2 50, 0, 0)) (e_L 50 (0, ei_getf eft elay 12 0 53, 0, 0))))) (e_T 56 (e_T 53 (e_L 53 (0, ei_load 4 0 55, 0, 0)) (e_T 55 (e_L 55 (0, ei_push (0, 2) 56, 0, 0)) (e_L 56 (0, ei_bin eF_add 57, 0, 0)))) (e_T 58 (e_T 57 (e_L 57 (0, ei_load 2 0 58, 0, 0)) (e_L 58 (0, ei_ast elay false 59, 0, 0))) (e_T 59 (e_L 59 (0, ei_load 0 2 60, 0, 0)) (e_L 60 (0, ei_getf eft elay 12 0 63, 0, 0)))))) (e_T 70 (e_T 66 (e_T 63 (e_L 63 (0, ei_load 4 0 65, 0, 0)) (e_T 65 (e_L 65 (0, ei_push (0, 3) 66, 0, 0)) (e_L 66 (0, ei_bin eF_add 67, 0, 0)))) (e_T 68 (e_T 67 (e_L 67 (0, ei_load 3 0 68, 0, 0)) (e_L 68 (0, ei_ast elay false 69, 0, 0))) (e_T 69 (e_L 69 (0, ei_load 0 2 70, 0, 0)) (e_L 70 (0, ei_getf eft elay 12 0 73, 0, 0))))) (e_T 75 (e_T 73 (e_L 73 (0, ei_push (0, 5) 74, 0, 0)) (e_T 74 (e_L 74 (0, ei_stk ef_dup2 75, 0, 0)) (e_L 75 (0, ei_ald elay false 76, 0, 0)))) (e_T 77 (e_T 76 (e_L 76 (0, ei_push (0, 1) 77, 0, 0)) (e_L 77 (0, ei_bin eF_add 78, 0, 0))) (e_T 78 (e_L 78 (0, ei_ast elay false 79, 0, 0)) (e_L 79 (1, e_nof, 0, 0)))))))
set_option maxRecDepth 20000 in
set_option maxHeartbeats 4000000 in
theorem te_319_26_ok : ∀ pc, e_EOq eft cls elay eI n_319 pc (te_319_26 pc) :=
  (e_Tok2
  (e_Tok2
  (e_Tok2
  (e_Tok2
  (e_Lok (ps_iconst_1 (x_dk dn_319_0_1_ok 1 rfl)))
  (e_Tok2
  (e_Lok (sm_iadd (x_dk dn_319_0_1_ok 2 rfl)))
  (e_Lok (ld_iload_n_1 (x_dk dn_319_0_1_ok 3 rfl)))))
  (e_Tok2
  (e_Lok (sm_iastore (x_dk dn_319_0_1_ok 4 rfl)))
  (e_Tok2
  (e_Lok (ld_aload_n_0 (x_dk dn_319_0_1_ok 5 rfl)))
  (e_Lok (lk_12_8g ho_319 (x_dk dn_319_0_1_ok 6 rfl))))))
  (e_Tok2
  (e_Tok2
  (e_Lok (ld_iload_4 (x_dk dn_319_0_1_ok 7 rfl)))
  (e_Tok2
  (e_Lok (ps_iconst_2 (x_dk dn_319_0_1_ok 8 rfl)))
  (e_Lok (sm_iadd (x_dk dn_319_0_1_ok 9 rfl)))))
  (e_Tok2
  (e_Tok2
  (e_Lok (ld_iload_n_2 (x_dk dn_319_0_1_ok 10 rfl)))
  (e_Lok (sm_iastore (x_dk dn_319_0_1_ok 11 rfl))))
  (e_Tok2
  (e_Lok (ld_aload_n_0 (x_dk dn_319_0_1_ok 12 rfl)))
  (e_Lok (lk_12_8g ho_319 (x_dk dn_319_0_1_ok 13 rfl)))))))
  (e_Tok2
  (e_Tok2
  (e_Tok2
  (e_Lok (ld_iload_4 (x_dk dn_319_0_1_ok 14 rfl)))
  (e_Tok2
  (e_Lok (ps_iconst_3 (x_dk dn_319_0_1_ok 15 rfl)))
  (e_Lok (sm_iadd (x_dk dn_319_0_1_ok 16 rfl)))))
  (e_Tok2
  (e_Tok2
  (e_Lok (ld_iload_n_3 (x_dk dn_319_0_1_ok 17 rfl)))
  (e_Lok (sm_iastore (x_dk dn_319_0_1_ok 18 rfl))))
  (e_Tok2
  (e_Lok (ld_aload_n_0 (x_dk dn_319_0_1_ok 19 rfl)))
  (e_Lok (lk_12_8g ho_319 (x_dk dn_319_0_1_ok 20 rfl))))))
  (e_Tok2
  (e_Tok2
  (e_Lok (ps_iconst_5 (x_dk dn_319_0_1_ok 21 rfl)))
  (e_Tok2
  (e_Lok (e_st (I := eI) (er_dup2 (x_dk dn_319_0_1_ok 22 rfl)) (nx_stk bf_dup2)))
  (e_Lok (sm_iaload (x_dk dn_319_0_1_ok 23 rfl)))))
  (e_Tok2
  (e_Tok2
  (e_Lok (ps_iconst_1 (x_dk dn_319_0_1_ok 24 rfl)))
  (e_Lok (sm_iadd (x_dk dn_319_0_2_ok 0 rfl))))
  (e_Tok2
  (e_Lok (sm_iastore (x_dk dn_319_0_2_ok 1 rfl)))
  (e_Lok (e_rt (I := eI) (k := 0) ⟨(x_dk dn_319_0_2_ok 2 rfl), rfl⟩)))))))
def te_319 : Nat → eE := (e_T 43 te_319_0 te_319_26)
theorem te_319_ok : ∀ pc, e_EOq eft cls elay eI n_319 pc (te_319 pc) := (e_Tok2 (te_319_0_ok) (te_319_26_ok))
theorem ho_320 : (xm_y n_320).cls = "RobotCellHouseModel" := rfl
def dn_320_0_0 : List (Nat × Instr × Nat) := [(0, .iconst 0, 1), (1, .istore_n 2, 1), (2, .iload_n 1, 1), (3, .istore_n 3, 1), (4, .aload_n 0, 1), (5, .getfield 8, 3), (8, .sipush 224, 3), (11, .iload_n 3, 1), (12, .iadd, 1), (13, .iaload, 1), (14, .ifCond .ne 32, 3), (17, .aload_n 0, 1), (18, .getfield 140, 3), (21, .iload_n 3, 1), (22, .iaload, 1), (23, .ifCond .lt 23, 3), (26, .aload_n 0, 1), (27, .getfield 164, 3), (30, .iload_n 2, 1), (31, .iload_n 3, 1), (32, .iastore, 1), (33, .iinc 2 1, 3), (36, .aload_n 0, 1), (37, .getfield 140, 3), (40, .iload_n 3, 1)]
set_option maxRecDepth 20000 in
theorem dn_320_0_0_ok : dn_320_0_0.all (fun q => decide (decode (xm_b n_320) q.1 = .ok (q.2.1, q.2.2))) = true := xa_g_ok (by decide +kernel)
def dn_320_0_1 : List (Nat × Instr × Nat) := [(41, .iaload, 1), (42, .istore_n 3, 1), (43, .goto (-39), 3), (46, .aload_n 0, 1), (47, .getfield 8, 3), (50, .sipush 224, 3), (53, .iload_n 3, 1), (54, .iadd, 1), (55, .iaload, 1), (56, .iconst 1, 1), (57, .if_icmp .ne 16, 3), (60, .aload_n 0, 1), (61, .getfield 8, 3), (64, .sipush 288, 3), (67, .iload_n 3, 1), (68, .iadd, 1), (69, .iaload, 1), (70, .goto 13, 3), (73, .aload_n 0, 1), (74, .getfield 8, 3), (77, .sipush 160, 3), (80, .iload_n 3, 1), (81, .iadd, 1), (82, .iaload, 1), (83, .istore 4, 2)]
set_option maxRecDepth 20000 in
theorem dn_320_0_1_ok : dn_320_0_1.all (fun q => decide (decode (xm_b n_320) q.1 = .ok (q.2.1, q.2.2))) = true := xa_g_ok (by decide +kernel)
def dn_320_0_2 : List (Nat × Instr × Nat) := [(85, .iload_n 2, 1), (86, .iconst 1, 1), (87, .isub, 1), (88, .istore 5, 2), (90, .iload 5, 2), (92, .ifCond .lt 41, 3), (95, .aload_n 0, 1), (96, .getfield 143, 3), (99, .aload_n 0, 1), (100, .getfield 164, 3), (103, .iload 5, 2), (105, .iaload, 1), (106, .baload, 1), (107, .ifCond .ne 8, 3), (110, .iload 4, 2), (112, .goto 13, 3), (115, .iload 4, 2), (117, .ifCond .ne 7, 3), (120, .iconst 1, 1), (121, .goto 4, 3), (124, .iconst 0, 1), (125, .istore 4, 2), (127, .iinc 5 (-1), 3), (130, .goto (-40), 3), (133, .iload 4, 2)]
set_option maxRecDepth 20000 in
theorem dn_320_0_2_ok : dn_320_0_2.all (fun q => decide (decode (xm_b n_320) q.1 = .ok (q.2.1, q.2.2))) = true := xa_g_ok (by decide +kernel)
def dn_320_0_3 : List (Nat × Instr × Nat) := [(135, .ireturn, 1)]
set_option maxRecDepth 20000 in
theorem dn_320_0_3_ok : dn_320_0_3.all (fun q => decide (decode (xm_b n_320) q.1 = .ok (q.2.1, q.2.2))) = true := xa_g_ok (by decide +kernel)
def te_320_0 : Nat → eE := (e_T 30 (e_T 12 (e_T 3 (e_T 1 (e_T 0 (e_L 0 (0, ei_push (0, 0) 1, 0, 0)) (e_L 1 (0, ei_stor 2 0 2, 0, 0))) (e_T 2 (e_L 2 (0, ei_load 1 0 3, 0, 0)) (e_L 3 (0, ei_stor 3 0 4, 0, 0)))) (e_T 5 (e_T 4 (e_L 4 (0, ei_load 0 2 5, 0, 0)) (e_L 5 (0, ei_getf eft elay 12 0 8, 0, 0))) (e_T 8 (e_L 8 (0, ei_push (0, 224) 11, 0, 0)) (e_T 11 (e_L 11 (0, ei_load 3 0 12, 0, 0)) (e_L 12 (0, ei_bin eF_add 13, 0, 0)))))) (e_T 21 (e_T 14 (e_T 13 (e_L 13 (0, ei_ald elay false 14, 0, 0)) (e_L 14 (0, ei_if1 1 46 17, 0, 0))) (e_T 17 (e_L 17 (0, ei_load 0 2 18, 0, 0)) (e_T 18 (e_L 18 (0, ei_getf eft elay 12 52 21, 0, 0)) (e_L 21 (0, ei_load 3 0 22, 0, 0))))) (e_T 23 (e_T 22 (e_L 22 (0, ei_ald elay false 23, 0, 0)) (e_L 23 (0, ei_if1 2 46 26, 0, 0))) (e_T 26 (e_L 26 (0, ei_load 0 2 27, 0, 0)) (e_T 27 (e_L 27 (0, ei_getf eft elay 12 63 30, 0, 0)) (e_L 30 (0, ei_load 2 0 31, 0, 0))))))) (e_T 43 (e_T 36 (e_T 32 (e_T 31 (e_L 31 (0, ei_load 3 0 32, 0, 0)) (e_L 32 (0, ei_ast elay false 33, 0, 0))) (e_T 33 (e_L 33 (0, ei_inc 2 1 36, 0, 0)) (e_L 36 (0, ei_load 0 2 37, 0, 0)))) (e_T 40 (e_T 37 (e_L 37 (0, ei_getf eft elay 12 52 40, 0, 0)) (e_L 40 (0, ei_load 3 0 41, 0, 0))) (e_T 41 (e_L 41 (0, ei_ald elay false 42, 0, 0)) (e_T 42 (e_L 42 (0, ei_stor 3 0 43, 0, 0)) (e_L 43 (0, ei_goto 4, 0, 0)))))) (e_T 54 (e_T 47 (e_T 46 (e_L 46 (0, ei_load 0 2 47, 0, 0)) (e_L 47 (0, ei_getf eft elay 12 0 50, 0, 0))) (e_T 50 (e_L 50 (0, ei_push (0, 224) 53, 0, 0)) (e_T 53 (e_L 53 (0, ei_load 3 0 54, 0, 0)) (e_L 54 (0, ei_bin eF_add 55, 0, 0))))) (e_T 56 (e_T 55 (e_L 55 (0, ei_ald elay false 56, 0, 0)) (e_L 56 (0, ei_push (0, 1) 57, 0, 0))) (e_T 57 (e_L 57 (0, ei_if2 1 73 60, 0, 0)) (e_T 60 (e_L 60 (0, ei_load 0 2 61, 0, 0)) (e_L 61 (0, ei_getf eft elay 12 0 64, 0, 0))))))))
set_option maxRecDepth 20000 in
set_option maxHeartbeats 4000000 in
theorem te_320_0_ok : ∀ pc, e_EOq eft cls elay eI n_320 pc (te_320_0 pc) :=
  (e_Tok2
  (e_Tok2
  (e_Tok2
  (e_Tok2
  (e_Tok2
  (e_Lok (ps_iconst_0 (x_dk dn_320_0_0_ok 0 rfl)))
  (e_Lok (e_st (I := eI) (er_istore_n (i := 2) (x_dk dn_320_0_0_ok 1 rfl) (by decide +kernel)) nx_stor)))
  (e_Tok2
  (e_Lok (ld_iload_n_1 (x_dk dn_320_0_0_ok 2 rfl)))
  (e_Lok (e_st (I := eI) (er_istore_n (i := 3) (x_dk dn_320_0_0_ok 3 rfl) (by decide +kernel)) nx_stor))))
  (e_Tok2
  (e_Tok2
  (e_Lok (ld_aload_n_0 (x_dk dn_320_0_0_ok 4 rfl)))
  (e_Lok (lk_12_8g ho_320 (x_dk dn_320_0_0_ok 5 rfl))))
  (e_Tok2
  (e_Lok (ps_sipush_224 (x_dk dn_320_0_0_ok 6 rfl)))
  (e_Tok2
  (e_Lok (ld_iload_n_3 (x_dk dn_320_0_0_ok 7 rfl)))
  (e_Lok (sm_iadd (x_dk dn_320_0_0_ok 8 rfl)))))))
  (e_Tok2
  (e_Tok2
  (e_Tok2
  (e_Lok (sm_iaload (x_dk dn_320_0_0_ok 9 rfl)))
  (e_Lok (e_st (I := eI) (er_ifne (off := 32) (tg := 46) (x_dk dn_320_0_0_ok 10 rfl) (by decide)) nx_if1)))
  (e_Tok2
  (e_Lok (ld_aload_n_0 (x_dk dn_320_0_0_ok 11 rfl)))
  (e_Tok2
  (e_Lok (lk_12_140g ho_320 (x_dk dn_320_0_0_ok 12 rfl)))
  (e_Lok (ld_iload_n_3 (x_dk dn_320_0_0_ok 13 rfl))))))
  (e_Tok2
  (e_Tok2
  (e_Lok (sm_iaload (x_dk dn_320_0_0_ok 14 rfl)))
  (e_Lok (e_st (I := eI) (er_iflt (off := 23) (tg := 46) (x_dk dn_320_0_0_ok 15 rfl) (by decide)) nx_if1)))
  (e_Tok2
  (e_Lok (ld_aload_n_0 (x_dk dn_320_0_0_ok 16 rfl)))
  (e_Tok2
  (e_Lok (lk_12_164g ho_320 (x_dk dn_320_0_0_ok 17 rfl)))
  (e_Lok (ld_iload_n_2 (x_dk dn_320_0_0_ok 18 rfl))))))))
  (e_Tok2
  (e_Tok2
  (e_Tok2
  (e_Tok2
  (e_Lok (ld_iload_n_3 (x_dk dn_320_0_0_ok 19 rfl)))
  (e_Lok (sm_iastore (x_dk dn_320_0_0_ok 20 rfl))))
  (e_Tok2
  (e_Lok (e_st (I := eI) (er_iinc (i := 2) (n := 1) (x_dk dn_320_0_0_ok 21 rfl) (by decide +kernel) (by decide)) nx_inc))
  (e_Lok (ld_aload_n_0 (x_dk dn_320_0_0_ok 22 rfl)))))
  (e_Tok2
  (e_Tok2
  (e_Lok (lk_12_140g ho_320 (x_dk dn_320_0_0_ok 23 rfl)))
  (e_Lok (ld_iload_n_3 (x_dk dn_320_0_0_ok 24 rfl))))
  (e_Tok2
  (e_Lok (sm_iaload (x_dk dn_320_0_1_ok 0 rfl)))
  (e_Tok2
  (e_Lok (e_st (I := eI) (er_istore_n (i := 3) (x_dk dn_320_0_1_ok 1 rfl) (by decide +kernel)) nx_stor))
  (e_Lok (e_st (I := eI) (er_goto (off := (-39)) (tg := 4) (x_dk dn_320_0_1_ok 2 rfl) (by decide)) nx_goto))))))
  (e_Tok2
  (e_Tok2
  (e_Tok2
  (e_Lok (ld_aload_n_0 (x_dk dn_320_0_1_ok 3 rfl)))
  (e_Lok (lk_12_8g ho_320 (x_dk dn_320_0_1_ok 4 rfl))))
  (e_Tok2
  (e_Lok (ps_sipush_224 (x_dk dn_320_0_1_ok 5 rfl)))
  (e_Tok2
  (e_Lok (ld_iload_n_3 (x_dk dn_320_0_1_ok 6 rfl)))
  (e_Lok (sm_iadd (x_dk dn_320_0_1_ok 7 rfl))))))
  (e_Tok2
  (e_Tok2
  (e_Lok (sm_iaload (x_dk dn_320_0_1_ok 8 rfl)))
  (e_Lok (ps_iconst_1 (x_dk dn_320_0_1_ok 9 rfl))))
  (e_Tok2
  (e_Lok (e_st (I := eI) (er_icmpne (off := 16) (tg := 73) (x_dk dn_320_0_1_ok 10 rfl) (by decide)) nx_if2))
  (e_Tok2
  (e_Lok (ld_aload_n_0 (x_dk dn_320_0_1_ok 11 rfl)))
  (e_Lok (lk_12_8g ho_320 (x_dk dn_320_0_1_ok 12 rfl)))))))))
def te_320_38 : Nat → eE := (e_T 95 (e_T 80 (e_T 69 (e_T 67 (e_T 64 (e_L 64 (0, ei_push (0, 288) 67, 0, 0)) (e_L 67 (0, ei_load 3 0 68, 0, 0))) (e_T 68 (e_L 68 (0, ei_bin eF_add 69, 0, 0)) (e_L 69 (0, ei_ald elay false 70, 0, 0)))) (e_T 73 (e_T 70 (e_L 70 (0, ei_goto 83, 0, 0)) (e_L 73 (0, ei_load 0 2 74, 0, 0))) (e_T 74 (e_L 74 (0, ei_getf eft elay 12 0 77, 0, 0)) (e_T 77 (e_L 77 (0, ei_push (0, 160) 80, 0, 0)) (e_L 80 (0, ei_load 3 0 81, 0, 0)))))) (e_T 86 (e_T 82 (e_T 81 (e_L 81 (0, ei_bin eF_add 82, 0, 0)) (e_L 82 (0, ei_ald elay false 83, 0, 0))) (e_T 83 (e_L 83 (0, ei_stor 4 0 85, 0, 0)) (e_T 85 (e_L 85 (0, ei_load 2 0 86, 0, 0)) (e_L 86 (0, ei_push (0, 1) 87, 0, 0))))) (e_T 88 (e_T 87 (e_L 87 (0, ei_bin eF_sub 88, 0, 0)) (e_L 88 (0, ei_stor 5 0 90, 0, 0))) (e_T 90 (e_L 90 (0, ei_load 5 0 92, 0, 0)) (e_T 92 (e_L 92 (0, ei_if1 2 133 95, 0, 0)) (e_L 95 (0, ei_load 0 2 96, 0, 0))))))) (e_T 112 (e_T 103 (e_T 99 (e_T 96 (e_L 96 (0, ei_getf eft elay 12 53 99, 0, 0)) (e_L 99 (0, ei_load 0 2 100, 0, 0))) (e_T 100 (e_L 100 (0, ei_getf eft elay 12 63 103, 0, 0)) (e_L 103 (0, ei_load 5 0 105, 0, 0)))) (e_T 106 (e_T 105 (e_L 105 (0, ei_ald elay false 106, 0, 0)) (e_L 106 (0, ei_ald elay true 107, 0, 0))) (e_T 107 (e_L 107 (0, ei_if1 1 115 110, 0, 0)) (e_T 110 (e_L 110 (0, ei_load 4 0 112, 0, 0)) (e_L 112 (0, ei_goto 125, 0, 0)))))) (e_T 124 (e_T 117 (e_T 115 (e_L 115 (0, ei_load 4 0 117, 0, 0)) (e_L 117 (0, ei_if1 1 124 120, 0, 0))) (e_T 120 (e_L 120 (0, ei_push (0, 1) 121, 0, 0)) (e_T 121 (e_L 121 (0, ei_goto 125, 0, 0)) (e_L 124 (0, ei_push (0, 0) 125, 0, 0))))) (e_T 127 (e_T 125 (e_L 125 (0, ei_stor 4 0 127, 0, 0)) (e_L 127 (0, ei_inc 5 (-1) 130, 0, 0))) (e_T 130 (e_L 130 (0, ei_goto 90, 0, 0)) (e_T 133 (e_L 133 (0, ei_load 4 0 135, 0, 0)) (e_L 135 (1, e_nof, 1, 0))))))))
set_option maxRecDepth 20000 in
set_option maxHeartbeats 4000000 in
theorem te_320_38_ok : ∀ pc, e_EOq eft cls elay eI n_320 pc (te_320_38 pc) :=
  (e_Tok2
  (e_Tok2
  (e_Tok2
  (e_Tok2
  (e_Tok2
  (e_Lok (ps_sipush_288 (x_dk dn_320_0_1_ok 13 rfl)))
  (e_Lok (ld_iload_n_3 (x_dk dn_320_0_1_ok 14 rfl))))
  (e_Tok2
  (e_Lok (sm_iadd (x_dk dn_320_0_1_ok 15 rfl)))
  (e_Lok (sm_iaload (x_dk dn_320_0_1_ok 16 rfl)))))
  (e_Tok2
  (e_Tok2
  (e_Lok (e_st (I := eI) (er_goto (off := 13) (tg := 83) (x_dk dn_320_0_1_ok 17 rfl) (by decide)) nx_goto))
  (e_Lok (ld_aload_n_0 (x_dk dn_320_0_1_ok 18 rfl))))
  (e_Tok2
  (e_Lok (lk_12_8g ho_320 (x_dk dn_320_0_1_ok 19 rfl)))
  (e_Tok2
  (e_Lok (ps_sipush_160 (x_dk dn_320_0_1_ok 20 rfl)))
  (e_Lok (ld_iload_n_3 (x_dk dn_320_0_1_ok 21 rfl)))))))
  (e_Tok2
  (e_Tok2
  (e_Tok2
  (e_Lok (sm_iadd (x_dk dn_320_0_1_ok 22 rfl)))
  (e_Lok (sm_iaload (x_dk dn_320_0_1_ok 23 rfl))))
  (e_Tok2
  (e_Lok (e_st (I := eI) (er_istore (i := 4) (x_dk dn_320_0_1_ok 24 rfl) (by decide +kernel)) nx_stor))
  (e_Tok2
  (e_Lok (ld_iload_n_2 (x_dk dn_320_0_2_ok 0 rfl)))
  (e_Lok (ps_iconst_1 (x_dk dn_320_0_2_ok 1 rfl))))))
  (e_Tok2
  (e_Tok2
  (e_Lok (sm_isub (x_dk dn_320_0_2_ok 2 rfl)))
  (e_Lok (e_st (I := eI) (er_istore (i := 5) (x_dk dn_320_0_2_ok 3 rfl) (by decide +kernel)) nx_stor)))
  (e_Tok2
  (e_Lok (ld_iload_5 (x_dk dn_320_0_2_ok 4 rfl)))
  (e_Tok2
  (e_Lok (e_st (I := eI) (er_iflt (off := 41) (tg := 133) (x_dk dn_320_0_2_ok 5 rfl) (by decide)) nx_if1))
  (e_Lok (ld_aload_n_0 (x_dk dn_320_0_2_ok 6 rfl))))))))
  (e_Tok2
  (e_Tok2
  (e_Tok2
  (e_Tok2
  (e_Lok (lk_12_143g ho_320 (x_dk dn_320_0_2_ok 7 rfl)))
  (e_Lok (ld_aload_n_0 (x_dk dn_320_0_2_ok 8 rfl))))
  (e_Tok2
  (e_Lok (lk_12_164g ho_320 (x_dk dn_320_0_2_ok 9 rfl)))
  (e_Lok (ld_iload_5 (x_dk dn_320_0_2_ok 10 rfl)))))
  (e_Tok2
  (e_Tok2
  (e_Lok (sm_iaload (x_dk dn_320_0_2_ok 11 rfl)))
  (e_Lok (e_st (I := eI) (er_baload (x_dk dn_320_0_2_ok 12 rfl)) nx_ald)))
  (e_Tok2
  (e_Lok (e_st (I := eI) (er_ifne (off := 8) (tg := 115) (x_dk dn_320_0_2_ok 13 rfl) (by decide)) nx_if1))
  (e_Tok2
  (e_Lok (ld_iload_4 (x_dk dn_320_0_2_ok 14 rfl)))
  (e_Lok (e_st (I := eI) (er_goto (off := 13) (tg := 125) (x_dk dn_320_0_2_ok 15 rfl) (by decide)) nx_goto))))))
  (e_Tok2
  (e_Tok2
  (e_Tok2
  (e_Lok (ld_iload_4 (x_dk dn_320_0_2_ok 16 rfl)))
  (e_Lok (e_st (I := eI) (er_ifne (off := 7) (tg := 124) (x_dk dn_320_0_2_ok 17 rfl) (by decide)) nx_if1)))
  (e_Tok2
  (e_Lok (ps_iconst_1 (x_dk dn_320_0_2_ok 18 rfl)))
  (e_Tok2
  (e_Lok (e_st (I := eI) (er_goto (off := 4) (tg := 125) (x_dk dn_320_0_2_ok 19 rfl) (by decide)) nx_goto))
  (e_Lok (ps_iconst_0 (x_dk dn_320_0_2_ok 20 rfl))))))
  (e_Tok2
  (e_Tok2
  (e_Lok (e_st (I := eI) (er_istore (i := 4) (x_dk dn_320_0_2_ok 21 rfl) (by decide +kernel)) nx_stor))
  (e_Lok (e_st (I := eI) (er_iinc (i := 5) (n := (-1)) (x_dk dn_320_0_2_ok 22 rfl) (by decide +kernel) (by decide)) nx_inc)))
  (e_Tok2
  (e_Lok (e_st (I := eI) (er_goto (off := (-40)) (tg := 90) (x_dk dn_320_0_2_ok 23 rfl) (by decide)) nx_goto))
  (e_Tok2
  (e_Lok (ld_iload_4 (x_dk dn_320_0_2_ok 24 rfl)))
  (e_Lok (e_rt (I := eI) (k := 1) ⟨(x_dk dn_320_0_3_ok 0 rfl), rfl⟩))))))))
def te_320 : Nat → eE := (e_T 61 te_320_0 te_320_38)
theorem te_320_ok : ∀ pc, e_EOq eft cls elay eI n_320 pc (te_320 pc) := (e_Tok2 (te_320_0_ok) (te_320_38_ok))
end
