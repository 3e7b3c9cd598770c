noncomputable section
theorem ho_390 : (xm_y n_390).cls = "RobotCellHouseModel" := rfl
def dn_390_0_0 : List (Nat × Instr × Nat) := [(0, .iconst 0, 1), (1, .istore_n 2, 1), (2, .iload_n 2, 1), (3, .aload_n 0, 1), (4, .getfield 269, 3), (7, .if_icmp .ge 52, 3), (10, .aload_n 0, 1), (11, .getfield 8, 3), (14, .iload_n 2, 1), (15, .invokestatic 294, 3), (18, .iconst 4, 1), (19, .iadd, 1), (20, .iconst 0, 1), (21, .iastore, 1), (22, .aload_n 0, 1), (23, .getfield 8, 3), (26, .iload_n 2, 1), (27, .invokestatic 294, 3), (30, .iconst 5, 1), (31, .iadd, 1), (32, .iload_n 2, 1), (33, .iload_n 1, 1), (34, .if_icmp .ne 17, 3), (37, .aload_n 0, 1), (38, .getfield 8, 3)]
set_option maxRecDepth 20000 in
theorem dn_390_0_0_ok : dn_390_0_0.all (fun q => decide (decode (xm_b n_390) q.1 = .ok (q.2.1, q.2.2))) = true := xa_g_ok (by decide +kernel)
def dn_390_0_1 : List (Nat × Instr × Nat) := [(41, .iload_n 2, 1), (42, .invokestatic 294, 3), (45, .iconst 5, 1), (46, .iadd, 1), (47, .iaload, 1), (48, .goto 4, 3), (51, .iconst 0, 1), (52, .iastore, 1), (53, .iinc 2 1, 3), (56, .goto (-54), 3), (59, .return_, 1)]
set_option maxRecDepth 20000 in
theorem dn_390_0_1_ok : dn_390_0_1.all (fun q => decide (decode (xm_b n_390) q.1 = .ok (q.2.1, q.2.2))) = true := xa_g_ok (by decide +kernel)
def te_390_0 : Nat → eE := (e_T 27 (e_T 14 (e_T 3 (e_T 1 (e_T 0 (e_L 0 (0, ei_push (0, 0) 1, 0, 0)) (e_L 1 (0, ei_stor 2 0 2, 0, 0))) (e_T 2 (e_L 2 (0, ei_load 2 0 3, 0, 0)) (e_L 3 (0, ei_load 0 2 4, 0, 0)))) (e_T 7 (e_T 4 (e_L 4 (0, ei_getf eft elay 12 10 7, 0, 0)) (e_L 7 (0, ei_if2 3 59 10, 0, 0))) (e_T 10 (e_L 10 (0, ei_load 0 2 11, 0, 0)) (e_T 11 (e_L 11 (0, ei_getf eft elay 12 0 14, 0, 0)) (e_L 14 (0, ei_load 2 0 15, 0, 0)))))) (e_T 20 (e_T 18 (e_T 15 (e_L 15 (2, e_nof, 268, 1)) (e_L 18 (0, ei_push (0, 4) 19, 0, 0))) (e_T 19 (e_L 19 (0, ei_bin eF_add 20, 0, 0)) (e_L 20 (0, ei_push (0, 0) 21, 0, 0)))) (e_T 22 (e_T 21 (e_L 21 (0, ei_ast elay false 22, 0, 0)) (e_L 22 (0, ei_load 0 2 23, 0, 0))) (e_T 23 (e_L 23 (0, ei_getf eft elay 12 0 26, 0, 0)) (e_T 26 (e_L 26 (0, ei_load 2 0 27, 0, 0)) (e_L 27 (2, e_nof, 268, 1))))))) (e_T 42 (e_T 33 (e_T 31 (e_T 30 (e_L 30 (0, ei_push (0, 5) 31, 0, 0)) (e_L 31 (0, ei_bin eF_add 32, 0, 0))) (e_T 32 (e_L 32 (0, ei_load 2 0 33, 0, 0)) (e_L 33 (0, ei_load 1 0 34, 0, 0)))) (e_T 37 (e_T 34 (e_L 34 (0, ei_if2 1 51 37, 0, 0)) (e_L 37 (0, ei_load 0 2 38, 0, 0))) (e_T 38 (e_L 38 (0, ei_getf eft elay 12 0 41, 0, 0)) (e_T 41 (e_L 41 (0, ei_load 2 0 42, 0, 0)) (e_L 42 (2, e_nof, 268, 1)))))) (e_T 48 (e_T 46 (e_T 45 (e_L 45 (0, ei_push (0, 5) 46, 0, 0)) (e_L 46 (0, ei_bin eF_add 47, 0, 0))) (e_T 47 (e_L 47 (0, ei_ald elay false 48, 0, 0)) (e_L 48 (0, ei_goto 52, 0, 0)))) (e_T 52 (e_T 51 (e_L 51 (0, ei_push (0, 0) 52, 0, 0)) (e_L 52 (0, ei_ast elay false 53, 0, 0))) (e_T 53 (e_L 53 (0, ei_inc 2 1 56, 0, 0)) (e_T 56 (e_L 56 (0, ei_goto 2, 0, 0)) (e_L 59 (1, e_nof, 0, 0))))))))
set_option maxRecDepth 20000 in
set_option maxHeartbeats 4000000 in
theorem te_390_0_ok : ∀ pc, e_EOq eft cls elay eI n_390 pc (te_390_0 pc) :=
  (e_Tok2
  (e_Tok2
  (e_Tok2
  (e_Tok2
  (e_Tok2
  (e_Lok (ps_iconst_0 (x_dk dn_390_0_0_ok 0 rfl)))
  (e_Lok (e_st (I := eI) (er_istore_n (i := 2) (x_dk dn_390_0_0_ok 1 rfl) (by decide +kernel)) nx_stor)))
  (e_Tok2
  (e_Lok (ld_iload_n_2 (x_dk dn_390_0_0_ok 2 rfl)))
  (e_Lok (ld_aload_n_0 (x_dk dn_390_0_0_ok 3 rfl)))))
  (e_Tok2
  (e_Tok2
  (e_Lok (lk_12_269g ho_390 (x_dk dn_390_0_0_ok 4 rfl)))
  (e_Lok (e_st (I := eI) (er_icmpge (off := 52) (tg := 59) (x_dk dn_390_0_0_ok 5 rfl) (by decide)) nx_if2)))
  (e_Tok2
  (e_Lok (ld_aload_n_0 (x_dk dn_390_0_0_ok 6 rfl)))
  (e_Tok2
  (e_Lok (lk_12_8g ho_390 (x_dk dn_390_0_0_ok 7 rfl)))
  (e_Lok (ld_iload_n_2 (x_dk dn_390_0_0_ok 8 rfl)))))))
  (e_Tok2
  (e_Tok2
  (e_Tok2
  (e_Lok (lk_12_294 ho_390 (x_dk dn_390_0_0_ok 9 rfl)))
  (e_Lok (ps_iconst_4 (x_dk dn_390_0_0_ok 10 rfl))))
  (e_Tok2
  (e_Lok (sm_iadd (x_dk dn_390_0_0_ok 11 rfl)))
  (e_Lok (ps_iconst_0 (x_dk dn_390_0_0_ok 12 rfl)))))
  (e_Tok2
  (e_Tok2
  (e_Lok (sm_iastore (x_dk dn_390_0_0_ok 13 rfl)))
  (e_Lok (ld_aload_n_0 (x_dk dn_390_0_0_ok 14 rfl))))
  (e_Tok2
  (e_Lok (lk_12_8g ho_390 (x_dk dn_390_0_0_ok 15 rfl)))
  (e_Tok2
  (e_Lok (ld_iload_n_2 (x_dk dn_390_0_0_ok 16 rfl)))
  (e_Lok (lk_12_294 ho_390 (x_dk dn_390_0_0_ok 17 rfl))))))))
  (e_Tok2
  (e_Tok2
  (e_Tok2
  (e_Tok2
  (e_Lok (ps_iconst_5 (x_dk dn_390_0_0_ok 18 rfl)))
  (e_Lok (sm_iadd (x_dk dn_390_0_0_ok 19 rfl))))
  (e_Tok2
  (e_Lok (ld_iload_n_2 (x_dk dn_390_0_0_ok 20 rfl)))
  (e_Lok (ld_iload_n_1 (x_dk dn_390_0_0_ok 21 rfl)))))
  (e_Tok2
  (e_Tok2
  (e_Lok (e_st (I := eI) (er_icmpne (off := 17) (tg := 51) (x_dk dn_390_0_0_ok 22 rfl) (by decide)) nx_if2))
  (e_Lok (ld_aload_n_0 (x_dk dn_390_0_0_ok 23 rfl))))
  (e_Tok2
  (e_Lok (lk_12_8g ho_390 (x_dk dn_390_0_0_ok 24 rfl)))
  (e_Tok2
  (e_Lok (ld_iload_n_2 (x_dk dn_390_0_1_ok 0 rfl)))
  (e_Lok (lk_12_294 ho_390 (x_dk dn_390_0_1_ok 1 rfl)))))))
  (e_Tok2
  (e_Tok2
  (e_Tok2
  (e_Lok (ps_iconst_5 (x_dk dn_390_0_1_ok 2 rfl)))
  (e_Lok (sm_iadd (x_dk dn_390_0_1_ok 3 rfl))))
  (e_Tok2
  (e_Lok (sm_iaload (x_dk dn_390_0_1_ok 4 rfl)))
  (e_Lok (e_st (I := eI) (er_goto (off := 4) (tg := 52) (x_dk dn_390_0_1_ok 5 rfl) (by decide)) nx_goto))))
  (e_Tok2
  (e_Tok2
  (e_Lok (ps_iconst_0 (x_dk dn_390_0_1_ok 6 rfl)))
  (e_Lok (sm_iastore (x_dk dn_390_0_1_ok 7 rfl))))
  (e_Tok2
  (e_Lok (e_st (I := eI) (er_iinc (i := 2) (n := 1) (x_dk dn_390_0_1_ok 8 rfl) (by decide +kernel) (by decide)) nx_inc))
  (e_Tok2
  (e_Lok (e_st (I := eI) (er_goto (off := (-54)) (tg := 2) (x_dk dn_390_0_1_ok 9 rfl) (by decide)) nx_goto))
  (e_Lok (e_rt (I := eI) (k := 0) ⟨(x_dk dn_390_0_1_ok 10 rfl), rfl⟩))))))))
def te_390 : Nat → eE := te_390_0
theorem te_390_ok : ∀ pc, e_EOq eft cls elay eI n_390 pc (te_390 pc) := te_390_0_ok
theorem ho_391 : (xm_y n_391).cls = "RobotCellHouseModel" := rfl
def dn_391_0_0 : List (Nat × Instr × Nat) := [(0, .iload_n 1, 1), (1, .invokestatic 294, 3), (4, .istore_n 2, 1), (5, .aload_n 0, 1), (6, .getfield 8, 3), (9, .iload_n 2, 1), (10, .bipush 6, 2), (12, .iadd, 1), (13, .iaload, 1), (14, .ifCond .ne 4, 3), (17, .return_, 1), (18, .aload_n 0, 1), (19, .getfield 8, 3), (22, .iload_n 2, 1), (23, .bipush 7, 2), (25, .iadd, 1), (26, .iaload, 1), (27, .istore_n 3, 1), (28, .iload_n 3, 1), (29, .aload_n 0, 1), (30, .getfield 8, 3), (33, .iload_n 2, 1), (34, .iconst 3, 1), (35, .iadd, 1), (36, .iaload, 1)]
set_option maxRecDepth 20000 in
theorem dn_391_0_0_ok : dn_391_0_0.all (fun q => decide (decode (xm_b n_391) q.1 = .ok (q.2.1, q.2.2))) = true := xa_g_ok (by decide +kernel)
def dn_391_0_1 : List (Nat × Instr × Nat) := [(37, .if_icmp .ne 14, 3), (40, .aload_n 0, 1), (41, .getfield 8, 3), (44, .iload_n 2, 1), (45, .bipush 6, 2), (47, .iadd, 1), (48, .iconst 0, 1), (49, .iastore, 1), (50, .return_, 1), (51, .iconst 0, 1), (52, .istore 4, 2), (54, .iload 4, 2), (56, .aload_n 0, 1), (57, .getfield 43, 3), (60, .iload_n 1, 1), (61, .iaload, 1), (62, .if_icmp .ge 33, 3), (65, .aload_n 0, 1), (66, .getfield 8, 3), (69, .iload_n 2, 1), (70, .bipush 28, 2), (72, .iadd, 1), (73, .iload 4, 2), (75, .iadd, 1), (76, .aload_n 0, 1)]
set_option maxRecDepth 20000 in
theorem dn_391_0_1_ok : dn_391_0_1.all (fun q => decide (decode (xm_b n_391) q.1 = .ok (q.2.1, q.2.2))) = true := xa_g_ok (by decide +kernel)
def dn_391_0_2 : List (Nat × Instr × Nat) := [(77, .getfield 8, 3), (80, .iload_n 2, 1), (81, .bipush 16, 2), (83, .iadd, 1), (84, .iload 4, 2), (86, .iadd, 1), (87, .iaload, 1), (88, .iastore, 1), (89, .iinc 4 1, 3), (92, .goto (-38), 3), (95, .aload_n 0, 1), (96, .getfield 8, 3), (99, .sipush 21060, 3), (102, .sipush 1000, 3), (105, .iload_n 1, 1), (106, .imul, 1), (107, .iadd, 1), (108, .iload_n 3, 1), (109, .iadd, 1), (110, .iaload, 1), (111, .istore 4, 2), (113, .iload_n 3, 1), (114, .aload_n 0, 1), (115, .getfield 8, 3), (118, .iload_n 2, 1)]
set_option maxRecDepth 20000 in
theorem dn_391_0_2_ok : dn_391_0_2.all (fun q => decide (decode (xm_b n_391) q.1 = .ok (q.2.1, q.2.2))) = true := xa_g_ok (by decide +kernel)
def dn_391_0_3 : List (Nat × Instr × Nat) := [(119, .iconst 3, 1), (120, .iadd, 1), (121, .iaload, 1), (122, .if_icmp .ge 76, 3), (125, .aload_n 0, 1), (126, .getfield 8, 3), (129, .sipush 21060, 3), (132, .sipush 1000, 3), (135, .iload_n 1, 1), (136, .imul, 1), (137, .iadd, 1), (138, .iload_n 3, 1), (139, .iadd, 1), (140, .iaload, 1), (141, .iload 4, 2), (143, .if_icmp .ne 55, 3), (146, .aload_n 0, 1), (147, .getfield 8, 3), (150, .iload_n 2, 1), (151, .bipush 28, 2), (153, .iadd, 1), (154, .iload 4, 2), (156, .iconst 2, 1), (157, .idiv, 1), (158, .iadd, 1)]
set_option maxRecDepth 20000 in
theorem dn_391_0_3_ok : dn_391_0_3.all (fun q => decide (decode (xm_b n_391) q.1 = .ok (q.2.1, q.2.2))) = true := xa_g_ok (by decide +kernel)
def dn_391_1_0 : List (Nat × Instr × Nat) := [(159, .dup2, 1), (160, .iaload, 1), (161, .iload 4, 2), (163, .iconst 2, 1), (164, .irem, 1), (165, .ifCond .ne 15, 3), (168, .aload_n 0, 1), (169, .getfield 8, 3), (172, .iload_n 2, 1), (173, .bipush 10, 2), (175, .iadd, 1), (176, .iaload, 1), (177, .goto 13, 3), (180, .aload_n 0, 1), (181, .getfield 8, 3), (184, .iload_n 2, 1), (185, .bipush 10, 2), (187, .iadd, 1), (188, .iaload, 1), (189, .ineg, 1), (190, .iadd, 1), (191, .iastore, 1), (192, .iinc 3 1, 3), (195, .goto (-82), 3), (198, .aload_n 0, 1)]
set_option maxRecDepth 20000 in
theorem dn_391_1_0_ok : dn_391_1_0.all (fun q => decide (decode (xm_b n_391) q.1 = .ok (q.2.1, q.2.2))) = true := xa_g_ok (by decide +kernel)
def dn_391_1_1 : List (Nat × Instr × Nat) := [(199, .getfield 8, 3), (202, .iload_n 2, 1), (203, .bipush 7, 2), (205, .iadd, 1), (206, .iload_n 3, 1), (207, .iastore, 1), (208, .aload_n 0, 1), (209, .iload_n 1, 1), (210, .invokevirtual 744, 3), (213, .return_, 1)]
set_option maxRecDepth 20000 in
theorem dn_391_1_1_ok : dn_391_1_1.all (fun q => decide (decode (xm_b n_391) q.1 = .ok (q.2.1, q.2.2))) = true := xa_g_ok (by decide +kernel)
def te_391_0 : Nat → eE := (e_T 25 (e_T 12 (e_T 5 (e_T 1 (e_T 0 (e_L 0 (0, ei_load 1 0 1, 0, 0)) (e_L 1 (2, e_nof, 268, 1))) (e_T 4 (e_L 4 (0, ei_stor 2 0 5, 0, 0)) (e_L 5 (0, ei_load 0 2 6, 0, 0)))) (e_T 9 (e_T 6 (e_L 6 (0, ei_getf eft elay 12 0 9, 0, 0)) (e_L 9 (0, ei_load 2 0 10, 0, 0))) (e_T 10 (e_L 10 (0, ei_push (0, 6) 12, 0, 0)) (e_L 12 (0, ei_bin eF_add 13, 0, 0))))) (e_T 18 (e_T 14 (e_T 13 (e_L 13 (0, ei_ald elay false 14, 0, 0)) (e_L 14 (0, ei_if1 1 18 17, 0, 0))) (e_T 17 (e_L 17 (1, e_nof, 0, 0)) (e_L 18 (0, ei_load 0 2 19, 0, 0)))) (e_T 22 (e_T 19 (e_L 19 (0, ei_getf eft elay 12 0 22, 0, 0)) (e_L 22 (0, ei_load 2 0 23, 0, 0))) (e_T 23 (e_L 23 (0, ei_push (0, 7) 25, 0, 0)) (e_L 25 (0, ei_bin eF_add 26, 0, 0)))))) (e_T 35 (e_T 29 (e_T 27 (e_T 26 (e_L 26 (0, ei_ald elay false 27, 0, 0)) (e_L 27 (0, ei_stor 3 0 28, 0, 0))) (e_T 28 (e_L 28 (0, ei_load 3 0 29, 0, 0)) (e_L 29 (0, ei_load 0 2 30, 0, 0)))) (e_T 33 (e_T 30 (e_L 30 (0, ei_getf eft elay 12 0 33, 0, 0)) (e_L 33 (0, ei_load 2 0 34, 0, 0))) (e_T 34 (e_L 34 (0, ei_push (0, 3) 35, 0, 0)) (e_L 35 (0, ei_bin eF_add 36, 0, 0))))) (e_T 41 (e_T 37 (e_T 36 (e_L 36 (0, ei_ald elay false 37, 0, 0)) (e_L 37 (0, ei_if2 1 51 40, 0, 0))) (e_T 40 (e_L 40 (0, ei_load 0 2 41, 0, 0)) (e_L 41 (0, ei_getf eft elay 12 0 44, 0, 0)))) (e_T 45 (e_T 44 (e_L 44 (0, ei_load 2 0 45, 0, 0)) (e_L 45 (0, ei_push (0, 6) 47, 0, 0))) (e_T 47 (e_L 47 (0, ei_bin eF_add 48, 0, 0)) (e_T 48 (e_L 48 (0, ei_push (0, 0) 49, 0, 0)) (e_L 49 (0, ei_ast elay false 50, 0, 0))))))))
set_option maxRecDepth 20000 in
set_option maxHeartbeats 4000000 in
theorem te_391_0_ok : ∀ pc, e_EOq eft cls elay eI n_391 pc (te_391_0 pc) :=
  (e_Tok2
  (e_Tok2
  (e_Tok2
  (e_Tok2
  (e_Tok2
  (e_Lok (ld_iload_n_1 (x_dk dn_391_0_0_ok 0 rfl)))
  (e_Lok (lk_12_294 ho_391 (x_dk dn_391_0_0_ok 1 rfl))))
  (e_Tok2
  (e_Lok (e_st (I := eI) (er_istore_n (i := 2) (x_dk dn_391_0_0_ok 2 rfl) (by decide +kernel)) nx_stor))
  (e_Lok (ld_aload_n_0 (x_dk dn_391_0_0_ok 3 rfl)))))
  (e_Tok2
  (e_Tok2
  (e_Lok (lk_12_8g ho_391 (x_dk dn_391_0_0_ok 4 rfl)))
  (e_Lok (ld_iload_n_2 (x_dk dn_391_0_0_ok 5 rfl))))
  (e_Tok2
  (e_Lok (ps_bipush_6 (x_dk dn_391_0_0_ok 6 rfl)))
  (e_Lok (sm_iadd (x_dk dn_391_0_0_ok 7 rfl))))))
  (e_Tok2
  (e_Tok2
  (e_Tok2
  (e_Lok (sm_iaload (x_dk dn_391_0_0_ok 8 rfl)))
  (e_Lok (e_st (I := eI) (er_ifne (off := 4) (tg := 18) (x_dk dn_391_0_0_ok 9 rfl) (by decide)) nx_if1)))
  (e_Tok2
  (e_Lok (e_rt (I := eI) (k := 0) ⟨(x_dk dn_391_0_0_ok 10 rfl), rfl⟩))
  (e_Lok (ld_aload_n_0 (x_dk dn_391_0_0_ok 11 rfl)))))
  (e_Tok2
  (e_Tok2
  (e_Lok (lk_12_8g ho_391 (x_dk dn_391_0_0_ok 12 rfl)))
  (e_Lok (ld_iload_n_2 (x_dk dn_391_0_0_ok 13 rfl))))
  (e_Tok2
  (e_Lok (ps_bipush_7 (x_dk dn_391_0_0_ok 14 rfl)))
  (e_Lok (sm_iadd (x_dk dn_391_0_0_ok 15 rfl)))))))
  (e_Tok2
  (e_Tok2
  (e_Tok2
  (e_Tok2
  (e_Lok (sm_iaload (x_dk dn_391_0_0_ok 16 rfl)))
  (e_Lok (e_st (I := eI) (er_istore_n (i := 3) (x_dk dn_391_0_0_ok 17 rfl) (by decide +kernel)) nx_stor)))
  (e_Tok2
  (e_Lok (ld_iload_n_3 (x_dk dn_391_0_0_ok 18 rfl)))
  (e_Lok (ld_aload_n_0 (x_dk dn_391_0_0_ok 19 rfl)))))
  (e_Tok2
  (e_Tok2
  (e_Lok (lk_12_8g ho_391 (x_dk dn_391_0_0_ok 20 rfl)))
  (e_Lok (ld_iload_n_2 (x_dk dn_391_0_0_ok 21 rfl))))
  (e_Tok2
  (e_Lok (ps_iconst_3 (x_dk dn_391_0_0_ok 22 rfl)))
  (e_Lok (sm_iadd (x_dk dn_391_0_0_ok 23 rfl))))))
  (e_Tok2
  (e_Tok2
  (e_Tok2
  (e_Lok (sm_iaload (x_dk dn_391_0_0_ok 24 rfl)))
  (e_Lok (e_st (I := eI) (er_icmpne (off := 14) (tg := 51) (x_dk dn_391_0_1_ok 0 rfl) (by decide)) nx_if2)))
  (e_Tok2
  (e_Lok (ld_aload_n_0 (x_dk dn_391_0_1_ok 1 rfl)))
  (e_Lok (lk_12_8g ho_391 (x_dk dn_391_0_1_ok 2 rfl)))))
  (e_Tok2
  (e_Tok2
  (e_Lok (ld_iload_n_2 (x_dk dn_391_0_1_ok 3 rfl)))
  (e_Lok (ps_bipush_6 (x_dk dn_391_0_1_ok 4 rfl))))
  (e_Tok2
  (e_Lok (sm_iadd (x_dk dn_391_0_1_ok 5 rfl)))
  (e_Tok2
  (e_Lok (ps_iconst_0 (x_dk dn_391_0_1_ok 6 rfl)))
  (e_Lok (sm_iastore (x_dk dn_391_0_1_ok 7 rfl)))))))))
def te_391_33 : Nat → eE := (e_T 76 (e_T 61 (e_T 54 (e_T 51 (e_T 50 (e_L 50 (1, e_nof, 0, 0)) (e_L 51 (0, ei_push (0, 0) 52, 0, 0))) (e_T 52 (e_L 52 (0, ei_stor 4 0 54, 0, 0)) (e_L 54 (0, ei_load 4 0 56, 0, 0)))) (e_T 57 (e_T 56 (e_L 56 (0, ei_load 0 2 57, 0, 0)) (e_L 57 (0, ei_getf eft elay 12 15 60, 0, 0))) (e_T 60 (e_L 60 (0, ei_load 1 0 61, 0, 0)) (e_L 61 (0, ei_ald elay false 62, 0, 0))))) (e_T 69 (e_T 65 (e_T 62 (e_L 62 (0, ei_if2 3 95 65, 0, 0)) (e_L 65 (0, ei_load 0 2 66, 0, 0))) (e_T 66 (e_L 66 (0, ei_getf eft elay 12 0 69, 0, 0)) (e_L 69 (0, ei_load 2 0 70, 0, 0)))) (e_T 72 (e_T 70 (e_L 70 (0, ei_push (0, 28) 72, 0, 0)) (e_L 72 (0, ei_bin eF_add 73, 0, 0))) (e_T 73 (e_L 73 (0, ei_load 4 0 75, 0, 0)) (e_T 75 (e_L 75 (0, ei_bin eF_add 76, 0, 0)) (e_L 76 (0, ei_load 0 2 77, 0, 0))))))) (e_T 88 (e_T 83 (e_T 80 (e_T 77 (e_L 77 (0, ei_getf eft elay 12 0 80, 0, 0)) (e_L 80 (0, ei_load 2 0 81, 0, 0))) (e_T 81 (e_L 81 (0, ei_push (0, 16) 83, 0, 0)) (e_L 83 (0, ei_bin eF_add 84, 0, 0)))) (e_T 86 (e_T 84 (e_L 84 (0, ei_load 4 0 86, 0, 0)) (e_L 86 (0, ei_bin eF_add 87, 0, 0))) (e_T 87 (e_L 87 (0, ei_ald elay false 88, 0, 0)) (e_L 88 (0, ei_ast elay false 89, 0, 0))))) (e_T 96 (e_T 92 (e_T 89 (e_L 89 (0, ei_inc 4 1 92, 0, 0)) (e_L 92 (0, ei_goto 54, 0, 0))) (e_T 95 (e_L 95 (0, ei_load 0 2 96, 0, 0)) (e_L 96 (0, ei_getf eft elay 12 0 99, 0, 0)))) (e_T 102 (e_T 99 (e_L 99 (0, ei_push (0, 21060) 102, 0, 0)) (e_L 102 (0, ei_push (0, 1000) 105, 0, 0))) (e_T 105 (e_L 105 (0, ei_load 1 0 106, 0, 0)) (e_T 106 (e_L 106 (0, ei_bin eF_mul 107, 0, 0)) (e_L 107 (0, ei_bin eF_add 108, 0, 0))))))))
set_option maxRecDepth 20000 in
set_option maxHeartbeats 4000000 in
theorem te_391_33_ok : ∀ pc, e_EOq eft cls elay eI n_391 pc (te_391_33 pc) :=
  (e_Tok2
  (e_Tok2
  (e_Tok2
  (e_Tok2
  (e_Tok2
  (e_Lok (e_rt (I := eI) (k := 0) ⟨(x_dk dn_391_0_1_ok 8 rfl), rfl⟩))
  (e_Lok (ps_iconst_0 (x_dk dn_391_0_1_ok 9 rfl))))
  (e_Tok2
  (e_Lok (e_st (I := eI) (er_istore (i := 4) (x_dk dn_391_0_1_ok 10 rfl) (by decide +kernel)) nx_stor))
  (e_Lok (ld_iload_4 (x_dk dn_391_0_1_ok 11 rfl)))))
  (e_Tok2
  (e_Tok2
  (e_Lok (ld_aload_n_0 (x_dk dn_391_0_1_ok 12 rfl)))
  (e_Lok (lk_12_43g ho_391 (x_dk dn_391_0_1_ok 13 rfl))))
  (e_Tok2
  (e_Lok (ld_iload_n_1 (x_dk dn_391_0_1_ok 14 rfl)))
  (e_Lok (sm_iaload (x_dk dn_391_0_1_ok 15 rfl))))))
  (e_Tok2
  (e_Tok2
  (e_Tok2
  (e_Lok (e_st (I := eI) (er_icmpge (off := 33) (tg := 95) (x_dk dn_391_0_1_ok 16 rfl) (by decide)) nx_if2))
  (e_Lok (ld_aload_n_0 (x_dk dn_391_0_1_ok 17 rfl))))
  (e_Tok2
  (e_Lok (lk_12_8g ho_391 (x_dk dn_391_0_1_ok 18 rfl)))
  (e_Lok (ld_iload_n_2 (x_dk dn_391_0_1_ok 19 rfl)))))
  (e_Tok2
  (e_Tok2
  (e_Lok (ps_bipush_28 (x_dk dn_391_0_1_ok 20 rfl)))
  (e_Lok (sm_iadd (x_dk dn_391_0_1_ok 21 rfl))))
  (e_Tok2
  (e_Lok (ld_iload_4 (x_dk dn_391_0_1_ok 22 rfl)))
  (e_Tok2
  (e_Lok (sm_iadd (x_dk dn_391_0_1_ok 23 rfl)))
  (e_Lok (ld_aload_n_0 (x_dk dn_391_0_1_ok 24 rfl))))))))
  (e_Tok2
  (e_Tok2
  (e_Tok2
  (e_Tok2
  (e_Lok (lk_12_8g ho_391 (x_dk dn_391_0_2_ok 0 rfl)))
  (e_Lok (ld_iload_n_2 (x_dk dn_391_0_2_ok 1 rfl))))
  (e_Tok2
  (e_Lok (ps_bipush_16 (x_dk dn_391_0_2_ok 2 rfl)))
  (e_Lok (sm_iadd (x_dk dn_391_0_2_ok 3 rfl)))))
  (e_Tok2
  (e_Tok2
  (e_Lok (ld_iload_4 (x_dk dn_391_0_2_ok 4 rfl)))
  (e_Lok (sm_iadd (x_dk dn_391_0_2_ok 5 rfl))))
  (e_Tok2
  (e_Lok (sm_iaload (x_dk dn_391_0_2_ok 6 rfl)))
  (e_Lok (sm_iastore (x_dk dn_391_0_2_ok 7 rfl))))))
  (e_Tok2
  (e_Tok2
  (e_Tok2
  (e_Lok (e_st (I := eI) (er_iinc (i := 4) (n := 1) (x_dk dn_391_0_2_ok 8 rfl) (by decide +kernel) (by decide)) nx_inc))
  (e_Lok (e_st (I := eI) (er_goto (off := (-38)) (tg := 54) (x_dk dn_391_0_2_ok 9 rfl) (by decide)) nx_goto)))
  (e_Tok2
  (e_Lok (ld_aload_n_0 (x_dk dn_391_0_2_ok 10 rfl)))
  (e_Lok (lk_12_8g ho_391 (x_dk dn_391_0_2_ok 11 rfl)))))
  (e_Tok2
  (e_Tok2
  (e_Lok (ps_sipush_21060 (x_dk dn_391_0_2_ok 12 rfl)))
  (e_Lok (ps_sipush_1000 (x_dk dn_391_0_2_ok 13 rfl))))
  (e_Tok2
  (e_Lok (ld_iload_n_1 (x_dk dn_391_0_2_ok 14 rfl)))
  (e_Tok2
  (e_Lok (sm_imul (x_dk dn_391_0_2_ok 15 rfl)))
  (e_Lok (sm_iadd (x_dk dn_391_0_2_ok 16 rfl)))))))))
def te_391_67 : Nat → eE := (e_T 135 (e_T 118 (e_T 111 (e_T 109 (e_T 108 (e_L 108 (0, ei_load 3 0 109, 0, 0)) (e_L 109 (0, ei_bin eF_add 110, 0, 0))) (e_T 110 (e_L 110 (0, ei_ald elay false 111, 0, 0)) (e_L 111 (0, ei_stor 4 0 113, 0, 0)))) (e_T 114 (e_T 113 (e_L 113 (0, ei_load 3 0 114, 0, 0)) (e_L 114 (0, ei_load 0 2 115, 0, 0))) (e_T 115 (e_L 115 (0, ei_getf eft elay 12 0 118, 0, 0)) (e_L 118 (0, ei_load 2 0 119, 0, 0))))) (e_T 122 (e_T 120 (e_T 119 (e_L 119 (0, ei_push (0, 3) 120, 0, 0)) (e_L 120 (0, ei_bin eF_add 121, 0, 0))) (e_T 121 (e_L 121 (0, ei_ald elay false 122, 0, 0)) (e_L 122 (0, ei_if2 3 198 125, 0, 0)))) (e_T 126 (e_T 125 (e_L 125 (0, ei_load 0 2 126, 0, 0)) (e_L 126 (0, ei_getf eft elay 12 0 129, 0, 0))) (e_T 129 (e_L 129 (0, ei_push (0, 21060) 132, 0, 0)) (e_T 132 (e_L 132 (0, ei_push (0, 1000) 135, 0, 0)) (e_L 135 (0, ei_load 1 0 136, 0, 0))))))) (e_T 146 (e_T 139 (e_T 137 (e_T 136 (e_L 136 (0, ei_bin eF_mul 137, 0, 0)) (e_L 137 (0, ei_bin eF_add 138, 0, 0))) (e_T 138 (e_L 138 (0, ei_load 3 0 139, 0, 0)) (e_L 139 (0, ei_bin eF_add 140, 0, 0)))) (e_T 141 (e_T 140 (e_L 140 (0, ei_ald elay false 141, 0, 0)) (e_L 141 (0, ei_load 4 0 143, 0, 0))) (e_T 143 (e_L 143 (0, ei_if2 1 198 146, 0, 0)) (e_L 146 (0, ei_load 0 2 147, 0, 0))))) (e_T 153 (e_T 150 (e_T 147 (e_L 147 (0, ei_getf eft elay 12 0 150, 0, 0)) (e_L 150 (0, ei_load 2 0 151, 0, 0))) (e_T 151 (e_L 151 (0, ei_push (0, 28) 153, 0, 0)) (e_L 153 (0, ei_bin eF_add 154, 0, 0)))) (e_T 156 (e_T 154 (e_L 154 (0, ei_load 4 0 156, 0, 0)) (e_L 156 (0, ei_push (0, 2) 157, 0, 0))) (e_T 157 (e_L 157 (0, ei_bin eF_div 158, 0, 0)) (e_T 158 (e_L 158 (0, ei_bin eF_add 159, 0, 0)) (e_L 159 (0, ei_stk ef_dup2 160, 0, 0))))))))
set_option maxRecDepth 20000 in
set_option maxHeartbeats 4000000 in
theorem te_391_67_ok : ∀ pc, e_EOq eft cls elay eI n_391 pc (te_391_67 pc) :=
  (e_Tok2
  (e_Tok2
  (e_Tok2
  (e_Tok2
  (e_Tok2
  (e_Lok (ld_iload_n_3 (x_dk dn_391_0_2_ok 17 rfl)))
  (e_Lok (sm_iadd (x_dk dn_391_0_2_ok 18 rfl))))
  (e_Tok2
  (e_Lok (sm_iaload (x_dk dn_391_0_2_ok 19 rfl)))
  (e_Lok (e_st (I := eI) (er_istore (i := 4) (x_dk dn_391_0_2_ok 20 rfl) (by decide +kernel)) nx_stor))))
  (e_Tok2
  (e_Tok2
  (e_Lok (ld_iload_n_3 (x_dk dn_391_0_2_ok 21 rfl)))
  (e_Lok (ld_aload_n_0 (x_dk dn_391_0_2_ok 22 rfl))))
  (e_Tok2
  (e_Lok (lk_12_8g ho_391 (x_dk dn_391_0_2_ok 23 rfl)))
  (e_Lok (ld_iload_n_2 (x_dk dn_391_0_2_ok 24 rfl))))))
  (e_Tok2
  (e_Tok2
  (e_Tok2
  (e_Lok (ps_iconst_3 (x_dk dn_391_0_3_ok 0 rfl)))
  (e_Lok (sm_iadd (x_dk dn_391_0_3_ok 1 rfl))))
  (e_Tok2
  (e_Lok (sm_iaload (x_dk dn_391_0_3_ok 2 rfl)))
  (e_Lok (e_st (I := eI) (er_icmpge (off := 76) (tg := 198) (x_dk dn_391_0_3_ok 3 rfl) (by decide)) nx_if2))))
  (e_Tok2
  (e_Tok2
  (e_Lok (ld_aload_n_0 (x_dk dn_391_0_3_ok 4 rfl)))
  (e_Lok (lk_12_8g ho_391 (x_dk dn_391_0_3_ok 5 rfl))))
  (e_Tok2
  (e_Lok (ps_sipush_21060 (x_dk dn_391_0_3_ok 6 rfl)))
  (e_Tok2
  (e_Lok (ps_sipush_1000 (x_dk dn_391_0_3_ok 7 rfl)))
  (e_Lok (ld_iload_n_1 (x_dk dn_391_0_3_ok 8 rfl))))))))
  (e_Tok2
  (e_Tok2
  (e_Tok2
  (e_Tok2
  (e_Lok (sm_imul (x_dk dn_391_0_3_ok 9 rfl)))
  (e_Lok (sm_iadd (x_dk dn_391_0_3_ok 10 rfl))))
  (e_Tok2
  (e_Lok (ld_iload_n_3 (x_dk dn_391_0_3_ok 11 rfl)))
  (e_Lok (sm_iadd (x_dk dn_391_0_3_ok 12 rfl)))))
  (e_Tok2
  (e_Tok2
  (e_Lok (sm_iaload (x_dk dn_391_0_3_ok 13 rfl)))
  (e_Lok (ld_iload_4 (x_dk dn_391_0_3_ok 14 rfl))))
  (e_Tok2
  (e_Lok (e_st (I := eI) (er_icmpne (off := 55) (tg := 198) (x_dk dn_391_0_3_ok 15 rfl) (by decide)) nx_if2))
  (e_Lok (ld_aload_n_0 (x_dk dn_391_0_3_ok 16 rfl))))))
  (e_Tok2
  (e_Tok2
  (e_Tok2
  (e_Lok (lk_12_8g ho_391 (x_dk dn_391_0_3_ok 17 rfl)))
  (e_Lok (ld_iload_n_2 (x_dk dn_391_0_3_ok 18 rfl))))
  (e_Tok2
  (e_Lok (ps_bipush_28 (x_dk dn_391_0_3_ok 19 rfl)))
  (e_Lok (sm_iadd (x_dk dn_391_0_3_ok 20 rfl)))))
  (e_Tok2
  (e_Tok2
  (e_Lok (ld_iload_4 (x_dk dn_391_0_3_ok 21 rfl)))
  (e_Lok (ps_iconst_2 (x_dk dn_391_0_3_ok 22 rfl))))
  (e_Tok2
  (e_Lok (e_st (I := eI) (er_idiv (x_dk dn_391_0_3_ok 23 rfl)) nx_bin))
  (e_Tok2
  (e_Lok (sm_iadd (x_dk dn_391_0_3_ok 24 rfl)))
  (e_Lok (e_st (I := eI) (er_dup2 (x_dk dn_391_1_0_ok 0 rfl)) (nx_stk bf_dup2)))))))))
def te_391_101 : Nat → eE := (e_T 187 (e_T 172 (e_T 164 (e_T 161 (e_T 160 (e_L 160 (0, ei_ald elay false 161, 0, 0)) (e_L 161 (0, ei_load 4 0 163, 0, 0))) (e_T 163 (e_L 163 (0, ei_push (0, 2) 164, 0, 0)) (e_L 164 (0, ei_bin eF_rem 165, 0, 0)))) (e_T 168 (e_T 165 (e_L 165 (0, ei_if1 1 180 168, 0, 0)) (e_L 168 (0, ei_load 0 2 169, 0, 0))) (e_T 169 (e_L 169 (0, ei_getf eft elay 12 0 172, 0, 0)) (e_L 172 (0, ei_load 2 0 173, 0, 0))))) (e_T 177 (e_T 175 (e_T 173 (e_L 173 (0, ei_push (0, 10) 175, 0, 0)) (e_L 175 (0, ei_bin eF_add 176, 0, 0))) (e_T 176 (e_L 176 (0, ei_ald elay false 177, 0, 0)) (e_L 177 (0, ei_goto 190, 0, 0)))) (e_T 181 (e_T 180 (e_L 180 (0, ei_load 0 2 181, 0, 0)) (e_L 181 (0, ei_getf eft elay 12 0 184, 0, 0))) (e_T 184 (e_L 184 (0, ei_load 2 0 185, 0, 0)) (e_T 185 (e_L 185 (0, ei_push (0, 10) 187, 0, 0)) (e_L 187 (0, ei_bin eF_add 188, 0, 0))))))) (e_T 199 (e_T 191 (e_T 189 (e_T 188 (e_L 188 (0, ei_ald elay false 189, 0, 0)) (e_L 189 (0, ei_un (fun x => (0, e32 (-x))) 190, 0, 0))) (e_T 190 (e_L 190 (0, ei_bin eF_add 191, 0, 0)) (e_L 191 (0, ei_ast elay false 192, 0, 0)))) (e_T 195 (e_T 192 (e_L 192 (0, ei_inc 3 1 195, 0, 0)) (e_L 195 (0, ei_goto 113, 0, 0))) (e_T 198 (e_L 198 (0, ei_load 0 2 199, 0, 0)) (e_L 199 (0, ei_getf eft elay 12 0 202, 0, 0))))) (e_T 206 (e_T 203 (e_T 202 (e_L 202 (0, ei_load 2 0 203, 0, 0)) (e_L 203 (0, ei_push (0, 7) 205, 0, 0))) (e_T 205 (e_L 205 (0, ei_bin eF_add 206, 0, 0)) (e_L 206 (0, ei_load 3 0 207, 0, 0)))) (e_T 208 (e_T 207 (e_L 207 (0, ei_ast elay false 208, 0, 0)) (e_L 208 (0, ei_load 0 2 209, 0, 0))) (e_T 209 (e_L 209 (0, ei_load 1 0 210, 0, 0)) (e_T 210 (e_L 210 (2, e_nof, 381, 2)) (e_L 213 (1, e_nof, 0, 0))))))))
set_option maxRecDepth 20000 in
set_option maxHeartbeats 4000000 in
theorem te_391_101_ok : ∀ pc, e_EOq eft cls elay eI n_391 pc (te_391_101 pc) :=
  (e_Tok2
  (e_Tok2
  (e_Tok2
  (e_Tok2
  (e_Tok2
  (e_Lok (sm_iaload (x_dk dn_391_1_0_ok 1 rfl)))
  (e_Lok (ld_iload_4 (x_dk dn_391_1_0_ok 2 rfl))))
  (e_Tok2
  (e_Lok (ps_iconst_2 (x_dk dn_391_1_0_ok 3 rfl)))
  (e_Lok (e_st (I := eI) (er_irem (x_dk dn_391_1_0_ok 4 rfl)) nx_bin))))
  (e_Tok2
  (e_Tok2
  (e_Lok (e_st (I := eI) (er_ifne (off := 15) (tg := 180) (x_dk dn_391_1_0_ok 5 rfl) (by decide)) nx_if1))
  (e_Lok (ld_aload_n_0 (x_dk dn_391_1_0_ok 6 rfl))))
  (e_Tok2
  (e_Lok (lk_12_8g ho_391 (x_dk dn_391_1_0_ok 7 rfl)))
  (e_Lok (ld_iload_n_2 (x_dk dn_391_1_0_ok 8 rfl))))))
  (e_Tok2
  (e_Tok2
  (e_Tok2
  (e_Lok (ps_bipush_10 (x_dk dn_391_1_0_ok 9 rfl)))
  (e_Lok (sm_iadd (x_dk dn_391_1_0_ok 10 rfl))))
  (e_Tok2
  (e_Lok (sm_iaload (x_dk dn_391_1_0_ok 11 rfl)))
  (e_Lok (e_st (I := eI) (er_goto (off := 13) (tg := 190) (x_dk dn_391_1_0_ok 12 rfl) (by decide)) nx_goto))))
  (e_Tok2
  (e_Tok2
  (e_Lok (ld_aload_n_0 (x_dk dn_391_1_0_ok 13 rfl)))
  (e_Lok (lk_12_8g ho_391 (x_dk dn_391_1_0_ok 14 rfl))))
  (e_Tok2
  (e_Lok (ld_iload_n_2 (x_dk dn_391_1_0_ok 15 rfl)))
  (e_Tok2
  (e_Lok (ps_bipush_10 (x_dk dn_391_1_0_ok 16 rfl)))
  (e_Lok (sm_iadd (x_dk dn_391_1_0_ok 17 rfl))))))))
  (e_Tok2
  (e_Tok2
  (e_Tok2
  (e_Tok2
  (e_Lok (sm_iaload (x_dk dn_391_1_0_ok 18 rfl)))
  (e_Lok (e_st (I := eI) (er_ineg (x_dk dn_391_1_0_ok 19 rfl)) (nx_un (fun _ => rfl)))))
  (e_Tok2
  (e_Lok (sm_iadd (x_dk dn_391_1_0_ok 20 rfl)))
  (e_Lok (sm_iastore (x_dk dn_391_1_0_ok 21 rfl)))))
  (e_Tok2
  (e_Tok2
  (e_Lok (e_st (I := eI) (er_iinc (i := 3) (n := 1) (x_dk dn_391_1_0_ok 22 rfl) (by decide +kernel) (by decide)) nx_inc))
  (e_Lok (e_st (I := eI) (er_goto (off := (-82)) (tg := 113) (x_dk dn_391_1_0_ok 23 rfl) (by decide)) nx_goto)))
  (e_Tok2
  (e_Lok (ld_aload_n_0 (x_dk dn_391_1_0_ok 24 rfl)))
  (e_Lok (lk_12_8g ho_391 (x_dk dn_391_1_1_ok 0 rfl))))))
  (e_Tok2
  (e_Tok2
  (e_Tok2
  (e_Lok (ld_iload_n_2 (x_dk dn_391_1_1_ok 1 rfl)))
  (e_Lok (ps_bipush_7 (x_dk dn_391_1_1_ok 2 rfl))))
  (e_Tok2
  (e_Lok (sm_iadd (x_dk dn_391_1_1_ok 3 rfl)))
  (e_Lok (ld_iload_n_3 (x_dk dn_391_1_1_ok 4 rfl)))))
  (e_Tok2
  (e_Tok2
  (e_Lok (sm_iastore (x_dk dn_391_1_1_ok 5 rfl)))
  (e_Lok (ld_aload_n_0 (x_dk dn_391_1_1_ok 6 rfl))))
  (e_Tok2
  (e_Lok (ld_iload_n_1 (x_dk dn_391_1_1_ok 7 rfl)))
  (e_Tok2
  (e_Lok (lk_12_744 ho_391 (x_dk dn_391_1_1_ok 8 rfl)))
  (e_Lok (e_rt (I := eI) (k := 0) ⟨(x_dk dn_391_1_1_ok 9 rfl), rfl⟩))))))))
def te_391 : Nat → eE := (e_T 107 (e_T 49 te_391_0 te_391_33) (e_T 159 te_391_67 te_391_101))
theorem te_391_ok : ∀ pc, e_EOq eft cls elay eI n_391 pc (te_391 pc) := (e_Tok2 ((e_Tok2 (te_391_0_ok) (te_391_33_ok))) ((e_Tok2 (te_391_67_ok) (te_391_101_ok))))
theorem ho_392 : (xm_y n_392).cls = "RobotCellHouseModel" := rfl
def dn_392_0_0 : List (Nat × Instr × Nat) := [(0, .sipush 20576, 3), (3, .iconst 4, 1), (4, .iload_n 0, 1), (5, .imul, 1), (6, .iadd, 1), (7, .ireturn, 1)]
set_option maxRecDepth 20000 in
theorem dn_392_0_0_ok : dn_392_0_0.all (fun q => decide (decode (xm_b n_392) q.1 = .ok (q.2.1, q.2.2))) = true := xa_g_ok (by decide +kernel)
def te_392_0 : Nat → eE := (e_T 4 (e_T 0 (e_L 0 (0, ei_push (0, 20576) 3, 0, 0)) (e_T 3 (e_L 3 (0, ei_push (0, 4) 4, 0, 0)) (e_L 4 (0, ei_load 0 0 5, 0, 0)))) (e_T 5 (e_L 5 (0, ei_bin eF_mul 6, 0, 0)) (e_T 6 (e_L 6 (0, ei_bin eF_add 7, 0, 0)) (e_L 7 (1, e_nof, 1, 0)))))
set_option maxRecDepth 20000 in
set_option maxHeartbeats 4000000 in
theorem te_392_0_ok : ∀ pc, e_EOq eft cls elay eI n_392 pc (te_392_0 pc) :=
  (e_Tok2
  (e_Tok2
  (e_Lok (ps_sipush_20576 (x_dk dn_392_0_0_ok 0 rfl)))
  (e_Tok2
  (e_Lok (ps_iconst_4 (x_dk dn_392_0_0_ok 1 rfl)))
  (e_Lok (ld_iload_n_0 (x_dk dn_392_0_0_ok 2 rfl)))))
  (e_Tok2
  (e_Lok (sm_imul (x_dk dn_392_0_0_ok 3 rfl)))
  (e_Tok2
  (e_Lok (sm_iadd (x_dk dn_392_0_0_ok 4 rfl)))
  (e_Lok (e_rt (I := eI) (k := 1) ⟨(x_dk dn_392_0_0_ok 5 rfl), rfl⟩)))))
def te_392 : Nat → eE := te_392_0
theorem te_392_ok : ∀ pc, e_EOq eft cls elay eI n_392 pc (te_392 pc) := te_392_0_ok
theorem ho_393 : (xm_y n_393).cls = "RobotCellHouseModel" := rfl
def dn_393_0_0 : List (Nat × Instr × Nat) := [(0, .sipush 20704, 3), (3, .bipush 33, 2), (5, .iload_n 2, 1), (6, .imul, 1), (7, .iadd, 1), (8, .istore 4, 2), (10, .aload_n 0, 1), (11, .getfield 8, 3), (14, .iload 4, 2), (16, .iaload, 1), (17, .istore 5, 2), (19, .iload 5, 2), (21, .istore 6, 2), (23, .iload 6, 2), (25, .ifCond .le 55, 3), (28, .aload_n 0, 1), (29, .getfield 8, 3), (32, .aload_n 0, 1), (33, .getfield 8, 3), (36, .iload 4, 2), (38, .iload 6, 2), (40, .iadd, 1), (41, .iaload, 1), (42, .invokestatic 774, 3), (45, .iconst 3, 1)]
set_option maxRecDepth 20000 in
theorem dn_393_0_0_ok : dn_393_0_0.all (fun q => decide (decode (xm_b n_393) q.1 = .ok (q.2.1, q.2.2))) = true := xa_g_ok (by decide +kernel)
def dn_393_0_1 : List (Nat × Instr × Nat) := [(46, .iadd, 1), (47, .iaload, 1), (48, .iload_n 3, 1), (49, .if_icmp .ge 31, 3), (52, .aload_n 0, 1), (53, .getfield 8, 3), (56, .iload 4, 2), (58, .iload 6, 2), (60, .iadd, 1), (61, .iconst 1, 1), (62, .iadd, 1), (63, .aload_n 0, 1), (64, .getfield 8, 3), (67, .iload 4, 2), (69, .iload 6, 2), (71, .iadd, 1), (72, .iaload, 1), (73, .iastore, 1), (74, .iinc 6 (-1), 3), (77, .goto (-54), 3), (80, .aload_n 0, 1), (81, .getfield 8, 3), (84, .iload 4, 2), (86, .iload 6, 2), (88, .iadd, 1)]
set_option maxRecDepth 20000 in
theorem dn_393_0_1_ok : dn_393_0_1.all (fun q => decide (decode (xm_b n_393) q.1 = .ok (q.2.1, q.2.2))) = true := xa_g_ok (by decide +kernel)
def dn_393_0_2 : List (Nat × Instr × Nat) := [(89, .iconst 1, 1), (90, .iadd, 1), (91, .iload_n 1, 1), (92, .iastore, 1), (93, .aload_n 0, 1), (94, .getfield 8, 3), (97, .iload 4, 2), (99, .iload 5, 2), (101, .iconst 1, 1), (102, .iadd, 1), (103, .iastore, 1), (104, .aload_n 0, 1), (105, .getfield 8, 3), (108, .iload_n 1, 1), (109, .invokestatic 774, 3), (112, .iload_n 2, 1), (113, .iastore, 1), (114, .aload_n 0, 1), (115, .getfield 8, 3), (118, .iload_n 1, 1), (119, .invokestatic 774, 3), (122, .iconst 3, 1), (123, .iadd, 1), (124, .iload_n 3, 1), (125, .iastore, 1)]
set_option maxRecDepth 20000 in
theorem dn_393_0_2_ok : dn_393_0_2.all (fun q => decide (decode (xm_b n_393) q.1 = .ok (q.2.1, q.2.2))) = true := xa_g_ok (by decide +kernel)
def dn_393_0_3 : List (Nat × Instr × Nat) := [(126, .return_, 1)]
set_option maxRecDepth 20000 in
theorem dn_393_0_3_ok : dn_393_0_3.all (fun q => decide (decode (xm_b n_393) q.1 = .ok (q.2.1, q.2.2))) = true := xa_g_ok (by decide +kernel)
def te_393_0 : Nat → eE := (e_T 33 (e_T 14 (e_T 6 (e_T 3 (e_T 0 (e_L 0 (0, ei_push (0, 20704) 3, 0, 0)) (e_L 3 (0, ei_push (0, 33) 5, 0, 0))) (e_T 5 (e_L 5 (0, ei_load 2 0 6, 0, 0)) (e_L 6 (0, ei_bin eF_mul 7, 0, 0)))) (e_T 8 (e_T 7 (e_L 7 (0, ei_bin eF_add 8, 0, 0)) (e_L 8 (0, ei_stor 4 0 10, 0, 0))) (e_T 10 (e_L 10 (0, ei_load 0 2 11, 0, 0)) (e_T 11 (e_L 11 (0, ei_getf eft elay 12 0 14, 0, 0)) (e_L 14 (0, ei_load 4 0 16, 0, 0)))))) (e_T 23 (e_T 17 (e_T 16 (e_L 16 (0, ei_ald elay false 17, 0, 0)) (e_L 17 (0, ei_stor 5 0 19, 0, 0))) (e_T 19 (e_L 19 (0, ei_load 5 0 21, 0, 0)) (e_T 21 (e_L 21 (0, ei_stor 6 0 23, 0, 0)) (e_L 23 (0, ei_load 6 0 25, 0, 0))))) (e_T 28 (e_T 25 (e_L 25 (0, ei_if1 5 80 28, 0, 0)) (e_L 28 (0, ei_load 0 2 29, 0, 0))) (e_T 29 (e_L 29 (0, ei_getf eft elay 12 0 32, 0, 0)) (e_T 32 (e_L 32 (0, ei_load 0 2 33, 0, 0)) (e_L 33 (0, ei_getf eft elay 12 0 36, 0, 0))))))) (e_T 48 (e_T 41 (e_T 38 (e_T 36 (e_L 36 (0, ei_load 4 0 38, 0, 0)) (e_L 38 (0, ei_load 6 0 40, 0, 0))) (e_T 40 (e_L 40 (0, ei_bin eF_add 41, 0, 0)) (e_L 41 (0, ei_ald elay false 42, 0, 0)))) (e_T 45 (e_T 42 (e_L 42 (2, e_nof, 392, 1)) (e_L 45 (0, ei_push (0, 3) 46, 0, 0))) (e_T 46 (e_L 46 (0, ei_bin eF_add 47, 0, 0)) (e_T 47 (e_L 47 (0, ei_ald elay false 48, 0, 0)) (e_L 48 (0, ei_load 3 0 49, 0, 0)))))) (e_T 58 (e_T 52 (e_T 49 (e_L 49 (0, ei_if2 3 80 52, 0, 0)) (e_L 52 (0, ei_load 0 2 53, 0, 0))) (e_T 53 (e_L 53 (0, ei_getf eft elay 12 0 56, 0, 0)) (e_T 56 (e_L 56 (0, ei_load 4 0 58, 0, 0)) (e_L 58 (0, ei_load 6 0 60, 0, 0))))) (e_T 61 (e_T 60 (e_L 60 (0, ei_bin eF_add 61, 0, 0)) (e_L 61 (0, ei_push (0, 1) 62, 0, 0))) (e_T 62 (e_L 62 (0, ei_bin eF_add 63, 0, 0)) (e_T 63 (e_L 63 (0, ei_load 0 2 64, 0, 0)) (e_L 64 (0, ei_getf eft elay 12 0 67, 0, 0))))))))
set_option maxRecDepth 20000 in
set_option maxHeartbeats 4000000 in
theorem te_393_0_ok : ∀ pc, e_EOq eft cls elay eI n_393 pc (te_393_0 pc) :=
  (e_Tok2
  (e_Tok2
  (e_Tok2
  (e_Tok2
  (e_Tok2
  (e_Lok (ps_sipush_20704 (x_dk dn_393_0_0_ok 0 rfl)))
  (e_Lok (ps_bipush_33 (x_dk dn_393_0_0_ok 1 rfl))))
  (e_Tok2
  (e_Lok (ld_iload_n_2 (x_dk dn_393_0_0_ok 2 rfl)))
  (e_Lok (sm_imul (x_dk dn_393_0_0_ok 3 rfl)))))
  (e_Tok2
  (e_Tok2
  (e_Lok (sm_iadd (x_dk dn_393_0_0_ok 4 rfl)))
  (e_Lok (e_st (I := eI) (er_istore (i := 4) (x_dk dn_393_0_0_ok 5 rfl) (by decide +kernel)) nx_stor)))
  (e_Tok2
  (e_Lok (ld_aload_n_0 (x_dk dn_393_0_0_ok 6 rfl)))
  (e_Tok2
  (e_Lok (lk_12_8g ho_393 (x_dk dn_393_0_0_ok 7 rfl)))
  (e_Lok (ld_iload_4 (x_dk dn_393_0_0_ok 8 rfl)))))))
  (e_Tok2
  (e_Tok2
  (e_Tok2
  (e_Lok (sm_iaload (x_dk dn_393_0_0_ok 9 rfl)))
  (e_Lok (e_st (I := eI) (er_istore (i := 5) (x_dk dn_393_0_0_ok 10 rfl) (by decide +kernel)) nx_stor)))
  (e_Tok2
  (e_Lok (ld_iload_5 (x_dk dn_393_0_0_ok 11 rfl)))
  (e_Tok2
  (e_Lok (e_st (I := eI) (er_istore (i := 6) (x_dk dn_393_0_0_ok 12 rfl) (by decide +kernel)) nx_stor))
  (e_Lok (ld_iload_6 (x_dk dn_393_0_0_ok 13 rfl))))))
  (e_Tok2
  (e_Tok2
  (e_Lok (e_st (I := eI) (er_ifle (off := 55) (tg := 80) (x_dk dn_393_0_0_ok 14 rfl) (by decide)) nx_if1))
  (e_Lok (ld_aload_n_0 (x_dk dn_393_0_0_ok 15 rfl))))
  (e_Tok2
  (e_Lok (lk_12_8g ho_393 (x_dk dn_393_0_0_ok 16 rfl)))
  (e_Tok2
  (e_Lok (ld_aload_n_0 (x_dk dn_393_0_0_ok 17 rfl)))
  (e_Lok (lk_12_8g ho_393 (x_dk dn_393_0_0_ok 18 rfl))))))))
  (e_Tok2
  (e_Tok2
  (e_Tok2
  (e_Tok2
  (e_Lok (ld_iload_4 (x_dk dn_393_0_0_ok 19 rfl)))
  (e_Lok (ld_iload_6 (x_dk dn_393_0_0_ok 20 rfl))))
  (e_Tok2
  (e_Lok (sm_iadd (x_dk dn_393_0_0_ok 21 rfl)))
  (e_Lok (sm_iaload (x_dk dn_393_0_0_ok 22 rfl)))))
  (e_Tok2
  (e_Tok2
  (e_Lok (lk_12_774 ho_393 (x_dk dn_393_0_0_ok 23 rfl)))
  (e_Lok (ps_iconst_3 (x_dk dn_393_0_0_ok 24 rfl))))
  (e_Tok2
  (e_Lok (sm_iadd (x_dk dn_393_0_1_ok 0 rfl)))
  (e_Tok2
  (e_Lok (sm_iaload (x_dk dn_393_0_1_ok 1 rfl)))
  (e_Lok (ld_iload_n_3 (x_dk dn_393_0_1_ok 2 rfl)))))))
  (e_Tok2
  (e_Tok2
  (e_Tok2
  (e_Lok (e_st (I := eI) (er_icmpge (off := 31) (tg := 80) (x_dk dn_393_0_1_ok 3 rfl) (by decide)) nx_if2))
  (e_Lok (ld_aload_n_0 (x_dk dn_393_0_1_ok 4 rfl))))
  (e_Tok2
  (e_Lok (lk_12_8g ho_393 (x_dk dn_393_0_1_ok 5 rfl)))
  (e_Tok2
  (e_Lok (ld_iload_4 (x_dk dn_393_0_1_ok 6 rfl)))
  (e_Lok (ld_iload_6 (x_dk dn_393_0_1_ok 7 rfl))))))
  (e_Tok2
  (e_Tok2
  (e_Lok (sm_iadd (x_dk dn_393_0_1_ok 8 rfl)))
  (e_Lok (ps_iconst_1 (x_dk dn_393_0_1_ok 9 rfl))))
  (e_Tok2
  (e_Lok (sm_iadd (x_dk dn_393_0_1_ok 10 rfl)))
  (e_Tok2
  (e_Lok (ld_aload_n_0 (x_dk dn_393_0_1_ok 11 rfl)))
  (e_Lok (lk_12_8g ho_393 (x_dk dn_393_0_1_ok 12 rfl)))))))))
def te_393_38 : Nat → eE := (e_T 97 (e_T 81 (e_T 72 (e_T 69 (e_T 67 (e_L 67 (0, ei_load 4 0 69, 0, 0)) (e_L 69 (0, ei_load 6 0 71, 0, 0))) (e_T 71 (e_L 71 (0, ei_bin eF_add 72, 0, 0)) (e_L 72 (0, ei_ald elay false 73, 0, 0)))) (e_T 74 (e_T 73 (e_L 73 (0, ei_ast elay false 74, 0, 0)) (e_L 74 (0, ei_inc 6 (-1) 77, 0, 0))) (e_T 77 (e_L 77 (0, ei_goto 23, 0, 0)) (e_T 80 (e_L 80 (0, ei_load 0 2 81, 0, 0)) (e_L 81 (0, ei_getf eft elay 12 0 84, 0, 0)))))) (e_T 90 (e_T 86 (e_T 84 (e_L 84 (0, ei_load 4 0 86, 0, 0)) (e_L 86 (0, ei_load 6 0 88, 0, 0))) (e_T 88 (e_L 88 (0, ei_bin eF_add 89, 0, 0)) (e_T 89 (e_L 89 (0, ei_push (0, 1) 90, 0, 0)) (e_L 90 (0, ei_bin eF_add 91, 0, 0))))) (e_T 92 (e_T 91 (e_L 91 (0, ei_load 1 0 92, 0, 0)) (e_L 92 (0, ei_ast elay false 93, 0, 0))) (e_T 93 (e_L 93 (0, ei_load 0 2 94, 0, 0)) (e_T 94 (e_L 94 (0, ei_getf eft elay 12 0 97, 0, 0)) (e_L 97 (0, ei_load 4 0 99, 0, 0))))))) (e_T 112 (e_T 103 (e_T 101 (e_T 99 (e_L 99 (0, ei_load 5 0 101, 0, 0)) (e_L 101 (0, ei_push (0, 1) 102, 0, 0))) (e_T 102 (e_L 102 (0, ei_bin eF_add 103, 0, 0)) (e_L 103 (0, ei_ast elay false 104, 0, 0)))) (e_T 105 (e_T 104 (e_L 104 (0, ei_load 0 2 105, 0, 0)) (e_L 105 (0, ei_getf eft elay 12 0 108, 0, 0))) (e_T 108 (e_L 108 (0, ei_load 1 0 109, 0, 0)) (e_T 109 (e_L 109 (2, e_nof, 392, 1)) (e_L 112 (0, ei_load 2 0 113, 0, 0)))))) (e_T 119 (e_T 114 (e_T 113 (e_L 113 (0, ei_ast elay false 114, 0, 0)) (e_L 114 (0, ei_load 0 2 115, 0, 0))) (e_T 115 (e_L 115 (0, ei_getf eft elay 12 0 118, 0, 0)) (e_T 118 (e_L 118 (0, ei_load 1 0 119, 0, 0)) (e_L 119 (2, e_nof, 392, 1))))) (e_T 123 (e_T 122 (e_L 122 (0, ei_push (0, 3) 123, 0, 0)) (e_L 123 (0, ei_bin eF_add 124, 0, 0))) (e_T 124 (e_L 124 (0, ei_load 3 0 125, 0, 0)) (e_T 125 (e_L 125 (0, ei_ast elay false 126, 0, 0)) (e_L 126 (1, e_nof, 0, 0))))))))
set_option maxRecDepth 20000 in
set_option maxHeartbeats 4000000 in
theorem te_393_38_ok : ∀ pc, e_EOq eft cls elay eI n_393 pc (te_393_38 pc) :=
  (e_Tok2
  (e_Tok2
  (e_Tok2
  (e_Tok2
  (e_Tok2
  (e_Lok (ld_iload_4 (x_dk dn_393_0_1_ok 13 rfl)))
  (e_Lok (ld_iload_6 (x_dk dn_393_0_1_ok 14 rfl))))
  (e_Tok2
  (e_Lok (sm_iadd (x_dk dn_393_0_1_ok 15 rfl)))
  (e_Lok (sm_iaload (x_dk dn_393_0_1_ok 16 rfl)))))
  (e_Tok2
  (e_Tok2
  (e_Lok (sm_iastore (x_dk dn_393_0_1_ok 17 rfl)))
  (e_Lok (e_st (I := eI) (er_iinc (i := 6) (n := (-1)) (x_dk dn_393_0_1_ok 18 rfl) (by decide +kernel) (by decide)) nx_inc)))
  (e_Tok2
  (e_Lok (e_st (I := eI) (er_goto (off := (-54)) (tg := 23) (x_dk dn_393_0_1_ok 19 rfl) (by decide)) nx_goto))
  (e_Tok2
  (e_Lok (ld_aload_n_0 (x_dk dn_393_0_1_ok 20 rfl)))
  (e_Lok (lk_12_8g ho_393 (x_dk dn_393_0_1_ok 21 rfl)))))))
  (e_Tok2
  (e_Tok2
  (e_Tok2
  (e_Lok (ld_iload_4 (x_dk dn_393_0_1_ok 22 rfl)))
  (e_Lok (ld_iload_6 (x_dk dn_393_0_1_ok 23 rfl))))
  (e_Tok2
  (e_Lok (sm_iadd (x_dk dn_393_0_1_ok 24 rfl)))
  (e_Tok2
  (e_Lok (ps_iconst_1 (x_dk dn_393_0_2_ok 0 rfl)))
  (e_Lok (sm_iadd (x_dk dn_393_0_2_ok 1 rfl))))))
  (e_Tok2
  (e_Tok2
  (e_Lok (ld_iload_n_1 (x_dk dn_393_0_2_ok 2 rfl)))
  (e_Lok (sm_iastore (x_dk dn_393_0_2_ok 3 rfl))))
  (e_Tok2
  (e_Lok (ld_aload_n_0 (x_dk dn_393_0_2_ok 4 rfl)))
  (e_Tok2
  (e_Lok (lk_12_8g ho_393 (x_dk dn_393_0_2_ok 5 rfl)))
  (e_Lok (ld_iload_4 (x_dk dn_393_0_2_ok 6 rfl))))))))
  (e_Tok2
  (e_Tok2
  (e_Tok2
  (e_Tok2
  (e_Lok (ld_iload_5 (x_dk dn_393_0_2_ok 7 rfl)))
  (e_Lok (ps_iconst_1 (x_dk dn_393_0_2_ok 8 rfl))))
  (e_Tok2
  (e_Lok (sm_iadd (x_dk dn_393_0_2_ok 9 rfl)))
  (e_Lok (sm_iastore (x_dk dn_393_0_2_ok 10 rfl)))))
  (e_Tok2
  (e_Tok2
  (e_Lok (ld_aload_n_0 (x_dk dn_393_0_2_ok 11 rfl)))
  (e_Lok (lk_12_8g ho_393 (x_dk dn_393_0_2_ok 12 rfl))))
  (e_Tok2
  (e_Lok (ld_iload_n_1 (x_dk dn_393_0_2_ok 13 rfl)))
  (e_Tok2
  (e_Lok (lk_12_774 ho_393 (x_dk dn_393_0_2_ok 14 rfl)))
  (e_Lok (ld_iload_n_2 (x_dk dn_393_0_2_ok 15 rfl)))))))
  (e_Tok2
  (e_Tok2
  (e_Tok2
  (e_Lok (sm_iastore (x_dk dn_393_0_2_ok 16 rfl)))
  (e_Lok (ld_aload_n_0 (x_dk dn_393_0_2_ok 17 rfl))))
  (e_Tok2
  (e_Lok (lk_12_8g ho_393 (x_dk dn_393_0_2_ok 18 rfl)))
  (e_Tok2
  (e_Lok (ld_iload_n_1 (x_dk dn_393_0_2_ok 19 rfl)))
  (e_Lok (lk_12_774 ho_393 (x_dk dn_393_0_2_ok 20 rfl))))))
  (e_Tok2
  (e_Tok2
  (e_Lok (ps_iconst_3 (x_dk dn_393_0_2_ok 21 rfl)))
  (e_Lok (sm_iadd (x_dk dn_393_0_2_ok 22 rfl))))
  (e_Tok2
  (e_Lok (ld_iload_n_3 (x_dk dn_393_0_2_ok 23 rfl)))
  (e_Tok2
  (e_Lok (sm_iastore (x_dk dn_393_0_2_ok 24 rfl)))
  (e_Lok (e_rt (I := eI) (k := 0) ⟨(x_dk dn_393_0_3_ok 0 rfl), rfl⟩))))))))
def te_393 : Nat → eE := (e_T 64 te_393_0 te_393_38)
theorem te_393_ok : ∀ pc, e_EOq eft cls elay eI n_393 pc (te_393 pc) := (e_Tok2 (te_393_0_ok) (te_393_38_ok))
theorem ho_394 : (xm_y n_394).cls = "RobotCellHouseModel" := rfl
def dn_394_0_0 : List (Nat × Instr × Nat) := [(0, .aload_n 0, 1), (1, .getfield 8, 3), (4, .iload_n 1, 1), (5, .invokestatic 774, 3), (8, .bipush 8, 2), (10, .iastore, 1), (11, .aload_n 0, 1), (12, .getfield 8, 3), (15, .iload_n 1, 1), (16, .invokestatic 774, 3), (19, .iconst 1, 1), (20, .iadd, 1), (21, .iload_n 2, 1), (22, .iastore, 1), (23, .aload_n 0, 1), (24, .getfield 8, 3), (27, .iload_n 1, 1), (28, .invokestatic 774, 3), (31, .iconst 2, 1), (32, .iadd, 1), (33, .iload_n 3, 1), (34, .iastore, 1), (35, .aload_n 0, 1), (36, .getfield 8, 3), (39, .iload_n 1, 1)]
set_option maxRecDepth 20000 in
theorem dn_394_0_0_ok : dn_394_0_0.all (fun q => decide (decode (xm_b n_394) q.1 = .ok (q.2.1, q.2.2))) = true := xa_g_ok (by decide +kernel)
def dn_394_0_1 : List (Nat × Instr × Nat) := [(40, .invokestatic 774, 3), (43, .iconst 3, 1), (44, .iadd, 1), (45, .iconst 0, 1), (46, .iastore, 1), (47, .return_, 1)]
set_option maxRecDepth 20000 in
theorem dn_394_0_1_ok : dn_394_0_1.all (fun q => decide (decode (xm_b n_394) q.1 = .ok (q.2.1, q.2.2))) = true := xa_g_ok (by decide +kernel)
def te_394_0 : Nat → eE := (e_T 23 (e_T 11 (e_T 4 (e_T 0 (e_L 0 (0, ei_load 0 2 1, 0, 0)) (e_T 1 (e_L 1 (0, ei_getf eft elay 12 0 4, 0, 0)) (e_L 4 (0, ei_load 1 0 5, 0, 0)))) (e_T 8 (e_T 5 (e_L 5 (2, e_nof, 392, 1)) (e_L 8 (0, ei_push (0, 8) 10, 0, 0))) (e_T 10 (e_L 10 (0, ei_ast elay false 11, 0, 0)) (e_L 11 (0, ei_load 0 2 12, 0, 0))))) (e_T 19 (e_T 15 (e_T 12 (e_L 12 (0, ei_getf eft elay 12 0 15, 0, 0)) (e_L 15 (0, ei_load 1 0 16, 0, 0))) (e_T 16 (e_L 16 (2, e_nof, 392, 1)) (e_L 19 (0, ei_push (0, 1) 20, 0, 0)))) (e_T 21 (e_T 20 (e_L 20 (0, ei_bin eF_add 21, 0, 0)) (e_L 21 (0, ei_load 2 0 22, 0, 0))) (e_T 22 (e_L 22 (0, ei_ast elay false 23, 0, 0)) (e_L 23 (0, ei_load 0 2 24, 0, 0)))))) (e_T 35 (e_T 31 (e_T 27 (e_T 24 (e_L 24 (0, ei_getf eft elay 12 0 27, 0, 0)) (e_L 27 (0, ei_load 1 0 28, 0, 0))) (e_T 28 (e_L 28 (2, e_nof, 392, 1)) (e_L 31 (0, ei_push (0, 2) 32, 0, 0)))) (e_T 33 (e_T 32 (e_L 32 (0, ei_bin eF_add 33, 0, 0)) (e_L 33 (0, ei_load 3 0 34, 0, 0))) (e_T 34 (e_L 34 (0, ei_ast elay false 35, 0, 0)) (e_L 35 (0, ei_load 0 2 36, 0, 0))))) (e_T 43 (e_T 39 (e_T 36 (e_L 36 (0, ei_getf eft elay 12 0 39, 0, 0)) (e_L 39 (0, ei_load 1 0 40, 0, 0))) (e_T 40 (e_L 40 (2, e_nof, 392, 1)) (e_L 43 (0, ei_push (0, 3) 44, 0, 0)))) (e_T 45 (e_T 44 (e_L 44 (0, ei_bin eF_add 45, 0, 0)) (e_L 45 (0, ei_push (0, 0) 46, 0, 0))) (e_T 46 (e_L 46 (0, ei_ast elay false 47, 0, 0)) (e_L 47 (1, e_nof, 0, 0)))))))
set_option maxRecDepth 20000 in
set_option maxHeartbeats 4000000 in
theorem te_394_0_ok : ∀ pc, e_EOq eft cls elay eI n_394 pc (te_394_0 pc) :=
  (e_Tok2
  (e_Tok2
  (e_Tok2
  (e_Tok2
  (e_Lok (ld_aload_n_0 (x_dk dn_394_0_0_ok 0 rfl)))
  (e_Tok2
  (e_Lok (lk_12_8g ho_394 (x_dk dn_394_0_0_ok 1 rfl)))
  (e_Lok (ld_iload_n_1 (x_dk dn_394_0_0_ok 2 rfl)))))
  (e_Tok2
  (e_Tok2
  (e_Lok (lk_12_774 ho_394 (x_dk dn_394_0_0_ok 3 rfl)))
  (e_Lok (ps_bipush_8 (x_dk dn_394_0_0_ok 4 rfl))))
  (e_Tok2
  (e_Lok (sm_iastore (x_dk dn_394_0_0_ok 5 rfl)))
  (e_Lok (ld_aload_n_0 (x_dk dn_394_0_0_ok 6 rfl))))))
  (e_Tok2
  (e_Tok2
  (e_Tok2
  (e_Lok (lk_12_8g ho_394 (x_dk dn_394_0_0_ok 7 rfl)))
  (e_Lok (ld_iload_n_1 (x_dk dn_394_0_0_ok 8 rfl))))
  (e_Tok2
  (e_Lok (lk_12_774 ho_394 (x_dk dn_394_0_0_ok 9 rfl)))
  (e_Lok (ps_iconst_1 (x_dk dn_394_0_0_ok 10 rfl)))))
  (e_Tok2
  (e_Tok2
  (e_Lok (sm_iadd (x_dk dn_394_0_0_ok 11 rfl)))
  (e_Lok (ld_iload_n_2 (x_dk dn_394_0_0_ok 12 rfl))))
  (e_Tok2
  (e_Lok (sm_iastore (x_dk dn_394_0_0_ok 13 rfl)))
  (e_Lok (ld_aload_n_0 (x_dk dn_394_0_0_ok 14 rfl)))))))
  (e_Tok2
  (e_Tok2
  (e_Tok2
  (e_Tok2
  (e_Lok (lk_12_8g ho_394 (x_dk dn_394_0_0_ok 15 rfl)))
  (e_Lok (ld_iload_n_1 (x_dk dn_394_0_0_ok 16 rfl))))
  (e_Tok2
  (e_Lok (lk_12_774 ho_394 (x_dk dn_394_0_0_ok 17 rfl)))
  (e_Lok (ps_iconst_2 (x_dk dn_394_0_0_ok 18 rfl)))))
  (e_Tok2
  (e_Tok2
  (e_Lok (sm_iadd (x_dk dn_394_0_0_ok 19 rfl)))
  (e_Lok (ld_iload_n_3 (x_dk dn_394_0_0_ok 20 rfl))))
  (e_Tok2
  (e_Lok (sm_iastore (x_dk dn_394_0_0_ok 21 rfl)))
  (e_Lok (ld_aload_n_0 (x_dk dn_394_0_0_ok 22 rfl))))))
  (e_Tok2
  (e_Tok2
  (e_Tok2
  (e_Lok (lk_12_8g ho_394 (x_dk dn_394_0_0_ok 23 rfl)))
  (e_Lok (ld_iload_n_1 (x_dk dn_394_0_0_ok 24 rfl))))
  (e_Tok2
  (e_Lok (lk_12_774 ho_394 (x_dk dn_394_0_1_ok 0 rfl)))
  (e_Lok (ps_iconst_3 (x_dk dn_394_0_1_ok 1 rfl)))))
  (e_Tok2
  (e_Tok2
  (e_Lok (sm_iadd (x_dk dn_394_0_1_ok 2 rfl)))
  (e_Lok (ps_iconst_0 (x_dk dn_394_0_1_ok 3 rfl))))
  (e_Tok2
  (e_Lok (sm_iastore (x_dk dn_394_0_1_ok 4 rfl)))
  (e_Lok (e_rt (I := eI) (k := 0) ⟨(x_dk dn_394_0_1_ok 5 rfl), rfl⟩)))))))
def te_394 : Nat → eE := te_394_0
theorem te_394_ok : ∀ pc, e_EOq eft cls elay eI n_394 pc (te_394 pc) := te_394_0_ok
theorem ho_395 : (xm_y n_395).cls = "RobotCellHouseModel" := rfl
def dn_395_0_0 : List (Nat × Instr × Nat) := [(0, .aload_n 0, 1), (1, .getfield 8, 3), (4, .iload_n 1, 1), (5, .invokestatic 774, 3), (8, .iaload, 1), (9, .istore_n 3, 1), (10, .iload_n 3, 1), (11, .bipush 8, 2), (13, .if_icmp .ne 17, 3), (16, .aload_n 0, 1), (17, .getfield 8, 3), (20, .iload_n 1, 1), (21, .invokestatic 774, 3), (24, .iconst 1, 1), (25, .iadd, 1), (26, .iload_n 2, 1), (27, .iadd, 1), (28, .iaload, 1), (29, .ireturn, 1), (30, .iload_n 3, 1), (31, .iconst 4, 1), (32, .if_icmp .lt 59, 3), (35, .aload_n 0, 1), (36, .iload_n 3, 1), (37, .iconst 4, 1)]
set_option maxRecDepth 20000 in
theorem dn_395_0_0_ok : dn_395_0_0.all (fun q => decide (decode (xm_b n_395) q.1 = .ok (q.2.1, q.2.2))) = true := xa_g_ok (by decide +kernel)
def dn_395_0_1 : List (Nat × Instr × Nat) := [(38, .isub, 1), (39, .iconst 0, 1), (40, .invokevirtual 397, 3), (43, .iload_n 2, 1), (44, .ifCond .ne 26, 3), (47, .aload_n 0, 1), (48, .getfield 149, 3), (51, .bipush 7, 2), (53, .iload_n 3, 1), (54, .iconst 4, 1), (55, .isub, 1), (56, .imul, 1), (57, .aload_n 0, 1), (58, .getfield 43, 3), (61, .iload_n 3, 1), (62, .iconst 4, 1), (63, .isub, 1), (64, .iaload, 1), (65, .iadd, 1), (66, .iaload, 1), (67, .goto 23, 3), (70, .aload_n 0, 1), (71, .getfield 152, 3), (74, .bipush 7, 2), (76, .iload_n 3, 1)]
set_option maxRecDepth 20000 in
theorem dn_395_0_1_ok : dn_395_0_1.all (fun q => decide (decode (xm_b n_395) q.1 = .ok (q.2.1, q.2.2))) = true := xa_g_ok (by decide +kernel)
def dn_395_0_2 : List (Nat × Instr × Nat) := [(77, .iconst 4, 1), (78, .isub, 1), (79, .imul, 1), (80, .aload_n 0, 1), (81, .getfield 43, 3), (84, .iload_n 3, 1), (85, .iconst 4, 1), (86, .isub, 1), (87, .iaload, 1), (88, .iadd, 1), (89, .iaload, 1), (90, .ireturn, 1), (91, .aload_n 0, 1), (92, .getfield 92, 3), (95, .iload_n 3, 1), (96, .iaload, 1), (97, .iconst 2, 1), (98, .irem, 1), (99, .iload_n 2, 1), (100, .if_icmp .eq 7, 3), (103, .iconst 0, 1), (104, .goto 39, 3), (107, .aload_n 0, 1), (108, .getfield 92, 3), (111, .iload_n 3, 1)]
set_option maxRecDepth 20000 in
theorem dn_395_0_2_ok : dn_395_0_2.all (fun q => decide (decode (xm_b n_395) q.1 = .ok (q.2.1, q.2.2))) = true := xa_g_ok (by decide +kernel)
def dn_395_0_3 : List (Nat × Instr × Nat) := [(112, .iaload, 1), (113, .iconst 2, 1), (114, .if_icmp .ge 17, 3), (117, .aload_n 0, 1), (118, .getfield 8, 3), (121, .iload_n 1, 1), (122, .invokestatic 774, 3), (125, .iconst 3, 1), (126, .iadd, 1), (127, .iaload, 1), (128, .goto 15, 3), (131, .aload_n 0, 1), (132, .getfield 8, 3), (135, .iload_n 1, 1), (136, .invokestatic 774, 3), (139, .iconst 3, 1), (140, .iadd, 1), (141, .iaload, 1), (142, .ineg, 1), (143, .istore 4, 2), (145, .iload 4, 2), (147, .iload_n 2, 1), (148, .ifCond .ne 12, 3), (151, .aload_n 0, 1), (152, .getfield 86, 3)]
set_option maxRecDepth 20000 in
theorem dn_395_0_3_ok : dn_395_0_3.all (fun q => decide (decode (xm_b n_395) q.1 = .ok (q.2.1, q.2.2))) = true := xa_g_ok (by decide +kernel)
def dn_395_1_0 : List (Nat × Instr × Nat) := [(155, .iload_n 3, 1), (156, .iaload, 1), (157, .goto 9, 3), (160, .aload_n 0, 1), (161, .getfield 89, 3), (164, .iload_n 3, 1), (165, .iaload, 1), (166, .iadd, 1), (167, .ireturn, 1)]
set_option maxRecDepth 20000 in
theorem dn_395_1_0_ok : dn_395_1_0.all (fun q => decide (decode (xm_b n_395) q.1 = .ok (q.2.1, q.2.2))) = true := xa_g_ok (by decide +kernel)
def te_395_0 : Nat → eE := (e_T 21 (e_T 9 (e_T 4 (e_T 0 (e_L 0 (0, ei_load 0 2 1, 0, 0)) (e_T 1 (e_L 1 (0, ei_getf eft elay 12 0 4, 0, 0)) (e_L 4 (0, ei_load 1 0 5, 0, 0)))) (e_T 5 (e_L 5 (2, e_nof, 392, 1)) (e_T 8 (e_L 8 (0, ei_ald elay false 9, 0, 0)) (e_L 9 (0, ei_stor 3 0 10, 0, 0))))) (e_T 13 (e_T 10 (e_L 10 (0, ei_load 3 0 11, 0, 0)) (e_T 11 (e_L 11 (0, ei_push (0, 8) 13, 0, 0)) (e_L 13 (0, ei_if2 1 30 16, 0, 0)))) (e_T 17 (e_T 16 (e_L 16 (0, ei_load 0 2 17, 0, 0)) (e_L 17 (0, ei_getf eft elay 12 0 20, 0, 0))) (e_T 20 (e_L 20 (0, ei_load 1 0 21, 0, 0)) (e_L 21 (2, e_nof, 392, 1)))))) (e_T 30 (e_T 26 (e_T 24 (e_L 24 (0, ei_push (0, 1) 25, 0, 0)) (e_T 25 (e_L 25 (0, ei_bin eF_add 26, 0, 0)) (e_L 26 (0, ei_load 2 0 27, 0, 0)))) (e_T 28 (e_T 27 (e_L 27 (0, ei_bin eF_add 28, 0, 0)) (e_L 28 (0, ei_ald elay false 29, 0, 0))) (e_T 29 (e_L 29 (1, e_nof, 1, 0)) (e_L 30 (0, ei_load 3 0 31, 0, 0))))) (e_T 35 (e_T 31 (e_L 31 (0, ei_push (0, 4) 32, 0, 0)) (e_T 32 (e_L 32 (0, ei_if2 2 91 35, 0, 0)) (e_L 35 (0, ei_load 0 2 36, 0, 0)))) (e_T 37 (e_T 36 (e_L 36 (0, ei_load 3 0 37, 0, 0)) (e_L 37 (0, ei_push (0, 4) 38, 0, 0))) (e_T 38 (e_L 38 (0, ei_bin eF_sub 39, 0, 0)) (e_L 39 (0, ei_push (0, 0) 40, 0, 0)))))))
set_option maxRecDepth 20000 in
set_option maxHeartbeats 4000000 in
theorem te_395_0_ok : ∀ pc, e_EOq eft cls elay eI n_395 pc (te_395_0 pc) :=
  (e_Tok2
  (e_Tok2
  (e_Tok2
  (e_Tok2
  (e_Lok (ld_aload_n_0 (x_dk dn_395_0_0_ok 0 rfl)))
  (e_Tok2
  (e_Lok (lk_12_8g ho_395 (x_dk dn_395_0_0_ok 1 rfl)))
  (e_Lok (ld_iload_n_1 (x_dk dn_395_0_0_ok 2 rfl)))))
  (e_Tok2
  (e_Lok (lk_12_774 ho_395 (x_dk dn_395_0_0_ok 3 rfl)))
  (e_Tok2
  (e_Lok (sm_iaload (x_dk dn_395_0_0_ok 4 rfl)))
  (e_Lok (e_st (I := eI) (er_istore_n (i := 3) (x_dk dn_395_0_0_ok 5 rfl) (by decide +kernel)) nx_stor)))))
  (e_Tok2
  (e_Tok2
  (e_Lok (ld_iload_n_3 (x_dk dn_395_0_0_ok 6 rfl)))
  (e_Tok2
  (e_Lok (ps_bipush_8 (x_dk dn_395_0_0_ok 7 rfl)))
  (e_Lok (e_st (I := eI) (er_icmpne (off := 17) (tg := 30) (x_dk dn_395_0_0_ok 8 rfl) (by decide)) nx_if2))))
  (e_Tok2
  (e_Tok2
  (e_Lok (ld_aload_n_0 (x_dk dn_395_0_0_ok 9 rfl)))
  (e_Lok (lk_12_8g ho_395 (x_dk dn_395_0_0_ok 10 rfl))))
  (e_Tok2
  (e_Lok (ld_iload_n_1 (x_dk dn_395_0_0_ok 11 rfl)))
  (e_Lok (lk_12_774 ho_395 (x_dk dn_395_0_0_ok 12 rfl)))))))
  (e_Tok2
  (e_Tok2
  (e_Tok2
  (e_Lok (ps_iconst_1 (x_dk dn_395_0_0_ok 13 rfl)))
  (e_Tok2
  (e_Lok (sm_iadd (x_dk dn_395_0_0_ok 14 rfl)))
  (e_Lok (ld_iload_n_2 (x_dk dn_395_0_0_ok 15 rfl)))))
  (e_Tok2
  (e_Tok2
  (e_Lok (sm_iadd (x_dk dn_395_0_0_ok 16 rfl)))
  (e_Lok (sm_iaload (x_dk dn_395_0_0_ok 17 rfl))))
  (e_Tok2
  (e_Lok (e_rt (I := eI) (k := 1) ⟨(x_dk dn_395_0_0_ok 18 rfl), rfl⟩))
  (e_Lok (ld_iload_n_3 (x_dk dn_395_0_0_ok 19 rfl))))))
  (e_Tok2
  (e_Tok2
  (e_Lok (ps_iconst_4 (x_dk dn_395_0_0_ok 20 rfl)))
  (e_Tok2
  (e_Lok (e_st (I := eI) (er_icmplt (off := 59) (tg := 91) (x_dk dn_395_0_0_ok 21 rfl) (by decide)) nx_if2))
  (e_Lok (ld_aload_n_0 (x_dk dn_395_0_0_ok 22 rfl)))))
  (e_Tok2
  (e_Tok2
  (e_Lok (ld_iload_n_3 (x_dk dn_395_0_0_ok 23 rfl)))
  (e_Lok (ps_iconst_4 (x_dk dn_395_0_0_ok 24 rfl))))
  (e_Tok2
  (e_Lok (sm_isub (x_dk dn_395_0_1_ok 0 rfl)))
  (e_Lok (ps_iconst_0 (x_dk dn_395_0_1_ok 1 rfl))))))))
def te_395_27 : Nat → eE := (e_T 61 (e_T 51 (e_T 44 (e_T 40 (e_L 40 (2, e_nof, 301, 3)) (e_T 43 (e_L 43 (0, ei_load 2 0 44, 0, 0)) (e_L 44 (0, ei_if1 1 70 47, 0, 0)))) (e_T 47 (e_L 47 (0, ei_load 0 2 48, 0, 0)) (e_T 48 (e_L 48 (0, ei_getf eft elay 12 55 51, 0, 0)) (e_L 51 (0, ei_push (0, 7) 53, 0, 0))))) (e_T 55 (e_T 53 (e_L 53 (0, ei_load 3 0 54, 0, 0)) (e_T 54 (e_L 54 (0, ei_push (0, 4) 55, 0, 0)) (e_L 55 (0, ei_bin eF_sub 56, 0, 0)))) (e_T 57 (e_T 56 (e_L 56 (0, ei_bin eF_mul 57, 0, 0)) (e_L 57 (0, ei_load 0 2 58, 0, 0))) (e_T 58 (e_L 58 (0, ei_getf eft elay 12 15 61, 0, 0)) (e_L 61 (0, ei_load 3 0 62, 0, 0)))))) (e_T 70 (e_T 64 (e_T 62 (e_L 62 (0, ei_push (0, 4) 63, 0, 0)) (e_T 63 (e_L 63 (0, ei_bin eF_sub 64, 0, 0)) (e_L 64 (0, ei_ald elay false 65, 0, 0)))) (e_T 66 (e_T 65 (e_L 65 (0, ei_bin eF_add 66, 0, 0)) (e_L 66 (0, ei_ald elay false 67, 0, 0))) (e_T 67 (e_L 67 (0, ei_goto 90, 0, 0)) (e_L 70 (0, ei_load 0 2 71, 0, 0))))) (e_T 76 (e_T 71 (e_L 71 (0, ei_getf eft elay 12 56 74, 0, 0)) (e_T 74 (e_L 74 (0, ei_push (0, 7) 76, 0, 0)) (e_L 76 (0, ei_load 3 0 77, 0, 0)))) (e_T 78 (e_T 77 (e_L 77 (0, ei_push (0, 4) 78, 0, 0)) (e_L 78 (0, ei_bin eF_sub 79, 0, 0))) (e_T 79 (e_L 79 (0, ei_bin eF_mul 80, 0, 0)) (e_L 80 (0, ei_load 0 2 81, 0, 0)))))))
set_option maxRecDepth 20000 in
set_option maxHeartbeats 4000000 in
theorem te_395_27_ok : ∀ pc, e_EOq eft cls elay eI n_395 pc (te_395_27 pc) :=
  (e_Tok2
  (e_Tok2
  (e_Tok2
  (e_Tok2
  (e_Lok (lk_12_397 ho_395 (x_dk dn_395_0_1_ok 2 rfl)))
  (e_Tok2
  (e_Lok (ld_iload_n_2 (x_dk dn_395_0_1_ok 3 rfl)))
  (e_Lok (e_st (I := eI) (er_ifne (off := 26) (tg := 70) (x_dk dn_395_0_1_ok 4 rfl) (by decide)) nx_if1))))
  (e_Tok2
  (e_Lok (ld_aload_n_0 (x_dk dn_395_0_1_ok 5 rfl)))
  (e_Tok2
  (e_Lok (lk_12_149g ho_395 (x_dk dn_395_0_1_ok 6 rfl)))
  (e_Lok (ps_bipush_7 (x_dk dn_395_0_1_ok 7 rfl))))))
  (e_Tok2
  (e_Tok2
  (e_Lok (ld_iload_n_3 (x_dk dn_395_0_1_ok 8 rfl)))
  (e_Tok2
  (e_Lok (ps_iconst_4 (x_dk dn_395_0_1_ok 9 rfl)))
  (e_Lok (sm_isub (x_dk dn_395_0_1_ok 10 rfl)))))
  (e_Tok2
  (e_Tok2
  (e_Lok (sm_imul (x_dk dn_395_0_1_ok 11 rfl)))
  (e_Lok (ld_aload_n_0 (x_dk dn_395_0_1_ok 12 rfl))))
  (e_Tok2
  (e_Lok (lk_12_43g ho_395 (x_dk dn_395_0_1_ok 13 rfl)))
  (e_Lok (ld_iload_n_3 (x_dk dn_395_0_1_ok 14 rfl)))))))
  (e_Tok2
  (e_Tok2
  (e_Tok2
  (e_Lok (ps_iconst_4 (x_dk dn_395_0_1_ok 15 rfl)))
  (e_Tok2
  (e_Lok (sm_isub (x_dk dn_395_0_1_ok 16 rfl)))
  (e_Lok (sm_iaload (x_dk dn_395_0_1_ok 17 rfl)))))
  (e_Tok2
  (e_Tok2
  (e_Lok (sm_iadd (x_dk dn_395_0_1_ok 18 rfl)))
  (e_Lok (sm_iaload (x_dk dn_395_0_1_ok 19 rfl))))
  (e_Tok2
  (e_Lok (e_st (I := eI) (er_goto (off := 23) (tg := 90) (x_dk dn_395_0_1_ok 20 rfl) (by decide)) nx_goto))
  (e_Lok (ld_aload_n_0 (x_dk dn_395_0_1_ok 21 rfl))))))
  (e_Tok2
  (e_Tok2
  (e_Lok (lk_12_152g ho_395 (x_dk dn_395_0_1_ok 22 rfl)))
  (e_Tok2
  (e_Lok (ps_bipush_7 (x_dk dn_395_0_1_ok 23 rfl)))
  (e_Lok (ld_iload_n_3 (x_dk dn_395_0_1_ok 24 rfl)))))
  (e_Tok2
  (e_Tok2
  (e_Lok (ps_iconst_4 (x_dk dn_395_0_2_ok 0 rfl)))
  (e_Lok (sm_isub (x_dk dn_395_0_2_ok 1 rfl))))
  (e_Tok2
  (e_Lok (sm_imul (x_dk dn_395_0_2_ok 2 rfl)))
  (e_Lok (ld_aload_n_0 (x_dk dn_395_0_2_ok 3 rfl))))))))
def te_395_54 : Nat → eE := (e_T 97 (e_T 88 (e_T 85 (e_T 81 (e_L 81 (0, ei_getf eft elay 12 15 84, 0, 0)) (e_T 84 (e_L 84 (0, ei_load 3 0 85, 0, 0)) (e_L 85 (0, ei_push (0, 4) 86, 0, 0)))) (e_T 86 (e_L 86 (0, ei_bin eF_sub 87, 0, 0)) (e_T 87 (e_L 87 (0, ei_ald elay false 88, 0, 0)) (e_L 88 (0, ei_bin eF_add 89, 0, 0))))) (e_T 91 (e_T 89 (e_L 89 (0, ei_ald elay false 90, 0, 0)) (e_T 90 (e_L 90 (1, e_nof, 1, 0)) (e_L 91 (0, ei_load 0 2 92, 0, 0)))) (e_T 95 (e_T 92 (e_L 92 (0, ei_getf eft elay 12 33 95, 0, 0)) (e_L 95 (0, ei_load 3 0 96, 0, 0))) (e_T 96 (e_L 96 (0, ei_ald elay false 97, 0, 0)) (e_L 97 (0, ei_push (0, 2) 98, 0, 0)))))) (e_T 108 (e_T 100 (e_T 98 (e_L 98 (0, ei_bin eF_rem 99, 0, 0)) (e_T 99 (e_L 99 (0, ei_load 2 0 100, 0, 0)) (e_L 100 (0, ei_if2 0 107 103, 0, 0)))) (e_T 104 (e_T 103 (e_L 103 (0, ei_push (0, 0) 104, 0, 0)) (e_L 104 (0, ei_goto 143, 0, 0))) (e_T 107 (e_L 107 (0, ei_load 0 2 108, 0, 0)) (e_L 108 (0, ei_getf eft elay 12 33 111, 0, 0))))) (e_T 113 (e_T 111 (e_L 111 (0, ei_load 3 0 112, 0, 0)) (e_T 112 (e_L 112 (0, ei_ald elay false 113, 0, 0)) (e_L 113 (0, ei_push (0, 2) 114, 0, 0)))) (e_T 117 (e_T 114 (e_L 114 (0, ei_if2 3 131 117, 0, 0)) (e_L 117 (0, ei_load 0 2 118, 0, 0))) (e_T 118 (e_L 118 (0, ei_getf eft elay 12 0 121, 0, 0)) (e_L 121 (0, ei_load 1 0 122, 0, 0)))))))
set_option maxRecDepth 20000 in
set_option maxHeartbeats 4000000 in
theorem te_395_54_ok : ∀ pc, e_EOq eft cls elay eI n_395 pc (te_395_54 pc) :=
  (e_Tok2
  (e_Tok2
  (e_Tok2
  (e_Tok2
  (e_Lok (lk_12_43g ho_395 (x_dk dn_395_0_2_ok 4 rfl)))
  (e_Tok2
  (e_Lok (ld_iload_n_3 (x_dk dn_395_0_2_ok 5 rfl)))
  (e_Lok (ps_iconst_4 (x_dk dn_395_0_2_ok 6 rfl)))))
  (e_Tok2
  (e_Lok (sm_isub (x_dk dn_395_0_2_ok 7 rfl)))
  (e_Tok2
  (e_Lok (sm_iaload (x_dk dn_395_0_2_ok 8 rfl)))
  (e_Lok (sm_iadd (x_dk dn_395_0_2_ok 9 rfl))))))
  (e_Tok2
  (e_Tok2
  (e_Lok (sm_iaload (x_dk dn_395_0_2_ok 10 rfl)))
  (e_Tok2
  (e_Lok (e_rt (I := eI) (k := 1) ⟨(x_dk dn_395_0_2_ok 11 rfl), rfl⟩))
  (e_Lok (ld_aload_n_0 (x_dk dn_395_0_2_ok 12 rfl)))))
  (e_Tok2
  (e_Tok2
  (e_Lok (lk_12_92g ho_395 (x_dk dn_395_0_2_ok 13 rfl)))
  (e_Lok (ld_iload_n_3 (x_dk dn_395_0_2_ok 14 rfl))))
  (e_Tok2
  (e_Lok (sm_iaload (x_dk dn_395_0_2_ok 15 rfl)))
  (e_Lok (ps_iconst_2 (x_dk dn_395_0_2_ok 16 rfl)))))))
  (e_Tok2
  (e_Tok2
  (e_Tok2
  (e_Lok (e_st (I := eI) (er_irem (x_dk dn_395_0_2_ok 17 rfl)) nx_bin))
  (e_Tok2
  (e_Lok (ld_iload_n_2 (x_dk dn_395_0_2_ok 18 rfl)))
  (e_Lok (e_st (I := eI) (er_icmpeq (off := 7) (tg := 107) (x_dk dn_395_0_2_ok 19 rfl) (by decide)) nx_if2))))
  (e_Tok2
  (e_Tok2
  (e_Lok (ps_iconst_0 (x_dk dn_395_0_2_ok 20 rfl)))
  (e_Lok (e_st (I := eI) (er_goto (off := 39) (tg := 143) (x_dk dn_395_0_2_ok 21 rfl) (by decide)) nx_goto)))
  (e_Tok2
  (e_Lok (ld_aload_n_0 (x_dk dn_395_0_2_ok 22 rfl)))
  (e_Lok (lk_12_92g ho_395 (x_dk dn_395_0_2_ok 23 rfl))))))
  (e_Tok2
  (e_Tok2
  (e_Lok (ld_iload_n_3 (x_dk dn_395_0_2_ok 24 rfl)))
  (e_Tok2
  (e_Lok (sm_iaload (x_dk dn_395_0_3_ok 0 rfl)))
  (e_Lok (ps_iconst_2 (x_dk dn_395_0_3_ok 1 rfl)))))
  (e_Tok2
  (e_Tok2
  (e_Lok (e_st (I := eI) (er_icmpge (off := 17) (tg := 131) (x_dk dn_395_0_3_ok 2 rfl) (by decide)) nx_if2))
  (e_Lok (ld_aload_n_0 (x_dk dn_395_0_3_ok 3 rfl))))
  (e_Tok2
  (e_Lok (lk_12_8g ho_395 (x_dk dn_395_0_3_ok 4 rfl)))
  (e_Lok (ld_iload_n_1 (x_dk dn_395_0_3_ok 5 rfl))))))))
def te_395_81 : Nat → eE := (e_T 143 (e_T 132 (e_T 126 (e_T 122 (e_L 122 (2, e_nof, 392, 1)) (e_T 125 (e_L 125 (0, ei_push (0, 3) 126, 0, 0)) (e_L 126 (0, ei_bin eF_add 127, 0, 0)))) (e_T 128 (e_T 127 (e_L 127 (0, ei_ald elay false 128, 0, 0)) (e_L 128 (0, ei_goto 143, 0, 0))) (e_T 131 (e_L 131 (0, ei_load 0 2 132, 0, 0)) (e_L 132 (0, ei_getf eft elay 12 0 135, 0, 0))))) (e_T 139 (e_T 135 (e_L 135 (0, ei_load 1 0 136, 0, 0)) (e_T 136 (e_L 136 (2, e_nof, 392, 1)) (e_L 139 (0, ei_push (0, 3) 140, 0, 0)))) (e_T 141 (e_T 140 (e_L 140 (0, ei_bin eF_add 141, 0, 0)) (e_L 141 (0, ei_ald elay false 142, 0, 0))) (e_T 142 (e_L 142 (0, ei_un (fun x => (0, e32 (-x))) 143, 0, 0)) (e_L 143 (0, ei_stor 4 0 145, 0, 0)))))) (e_T 156 (e_T 148 (e_T 145 (e_L 145 (0, ei_load 4 0 147, 0, 0)) (e_T 147 (e_L 147 (0, ei_load 2 0 148, 0, 0)) (e_L 148 (0, ei_if1 1 160 151, 0, 0)))) (e_T 152 (e_T 151 (e_L 151 (0, ei_load 0 2 152, 0, 0)) (e_L 152 (0, ei_getf eft elay 12 31 155, 0, 0))) (e_T 155 (e_L 155 (0, ei_load 3 0 156, 0, 0)) (e_L 156 (0, ei_ald elay false 157, 0, 0))))) (e_T 161 (e_T 157 (e_L 157 (0, ei_goto 166, 0, 0)) (e_T 160 (e_L 160 (0, ei_load 0 2 161, 0, 0)) (e_L 161 (0, ei_getf eft elay 12 32 164, 0, 0)))) (e_T 165 (e_T 164 (e_L 164 (0, ei_load 3 0 165, 0, 0)) (e_L 165 (0, ei_ald elay false 166, 0, 0))) (e_T 166 (e_L 166 (0, ei_bin eF_add 167, 0, 0)) (e_L 167 (1, e_nof, 1, 0)))))))
set_option maxRecDepth 20000 in
set_option maxHeartbeats 4000000 in
theorem te_395_81_ok : ∀ pc, e_EOq eft cls elay eI n_395 pc (te_395_81 pc) :=
  (e_Tok2
  (e_Tok2
  (e_Tok2
  (e_Tok2
  (e_Lok (lk_12_774 ho_395 (x_dk dn_395_0_3_ok 6 rfl)))
  (e_Tok2
  (e_Lok (ps_iconst_3 (x_dk dn_395_0_3_ok 7 rfl)))
  (e_Lok (sm_iadd (x_dk dn_395_0_3_ok 8 rfl)))))
  (e_Tok2
  (e_Tok2
  (e_Lok (sm_iaload (x_dk dn_395_0_3_ok 9 rfl)))
  (e_Lok (e_st (I := eI) (er_goto (off := 15) (tg := 143) (x_dk dn_395_0_3_ok 10 rfl) (by decide)) nx_goto)))
  (e_Tok2
  (e_Lok (ld_aload_n_0 (x_dk dn_395_0_3_ok 11 rfl)))
  (e_Lok (lk_12_8g ho_395 (x_dk dn_395_0_3_ok 12 rfl))))))
  (e_Tok2
  (e_Tok2
  (e_Lok (ld_iload_n_1 (x_dk dn_395_0_3_ok 13 rfl)))
  (e_Tok2
  (e_Lok (lk_12_774 ho_395 (x_dk dn_395_0_3_ok 14 rfl)))
  (e_Lok (ps_iconst_3 (x_dk dn_395_0_3_ok 15 rfl)))))
  (e_Tok2
  (e_Tok2
  (e_Lok (sm_iadd (x_dk dn_395_0_3_ok 16 rfl)))
  (e_Lok (sm_iaload (x_dk dn_395_0_3_ok 17 rfl))))
  (e_Tok2
  (e_Lok (e_st (I := eI) (er_ineg (x_dk dn_395_0_3_ok 18 rfl)) (nx_un (fun _ => rfl))))
  (e_Lok (e_st (I := eI) (er_istore (i := 4) (x_dk dn_395_0_3_ok 19 rfl) (by decide +kernel)) nx_stor))))))
  (e_Tok2
  (e_Tok2
  (e_Tok2
  (e_Lok (ld_iload_4 (x_dk dn_395_0_3_ok 20 rfl)))
  (e_Tok2
  (e_Lok (ld_iload_n_2 (x_dk dn_395_0_3_ok 21 rfl)))
  (e_Lok (e_st (I := eI) (er_ifne (off := 12) (tg := 160) (x_dk dn_395_0_3_ok 22 rfl) (by decide)) nx_if1))))
  (e_Tok2
  (e_Tok2
  (e_Lok (ld_aload_n_0 (x_dk dn_395_0_3_ok 23 rfl)))
  (e_Lok (lk_12_86g ho_395 (x_dk dn_395_0_3_ok 24 rfl))))
  (e_Tok2
  (e_Lok (ld_iload_n_3 (x_dk dn_395_1_0_ok 0 rfl)))
  (e_Lok (sm_iaload (x_dk dn_395_1_0_ok 1 rfl))))))
  (e_Tok2
  (e_Tok2
  (e_Lok (e_st (I := eI) (er_goto (off := 9) (tg := 166) (x_dk dn_395_1_0_ok 2 rfl) (by decide)) nx_goto))
  (e_Tok2
  (e_Lok (ld_aload_n_0 (x_dk dn_395_1_0_ok 3 rfl)))
  (e_Lok (lk_12_89g ho_395 (x_dk dn_395_1_0_ok 4 rfl)))))
  (e_Tok2
  (e_Tok2
  (e_Lok (ld_iload_n_3 (x_dk dn_395_1_0_ok 5 rfl)))
  (e_Lok (sm_iaload (x_dk dn_395_1_0_ok 6 rfl))))
  (e_Tok2
  (e_Lok (sm_iadd (x_dk dn_395_1_0_ok 7 rfl)))
  (e_Lok (e_rt (I := eI) (k := 1) ⟨(x_dk dn_395_1_0_ok 8 rfl), rfl⟩)))))))
def te_395 : Nat → eE := (e_T 80 (e_T 39 te_395_0 te_395_27) (e_T 121 te_395_54 te_395_81))
theorem te_395_ok : ∀ pc, e_EOq eft cls elay eI n_395 pc (te_395 pc) := (e_Tok2 ((e_Tok2 (te_395_0_ok) (te_395_27_ok))) ((e_Tok2 (te_395_54_ok) (te_395_81_ok))))
theorem ho_396 : (xm_y n_396).cls = "RobotCellHouseModel" := rfl
def dn_396_0_0 : List (Nat × Instr × Nat) := [(0, .aload_n 0, 1), (1, .getfield 8, 3), (4, .iload_n 1, 1), (5, .invokestatic 294, 3), (8, .iconst 1, 1), (9, .iadd, 1), (10, .iaload, 1), (11, .ifCond .lt 5, 3), (14, .iconst 0, 1), (15, .ireturn, 1), (16, .aload_n 0, 1), (17, .iload_n 1, 1), (18, .iconst 0, 1), (19, .invokevirtual 397, 3), (22, .aload_n 0, 1), (23, .getfield 149, 3), (26, .bipush 7, 2), (28, .iload_n 1, 1), (29, .imul, 1), (30, .aload_n 0, 1), (31, .getfield 43, 3), (34, .iload_n 1, 1), (35, .iaload, 1), (36, .iadd, 1), (37, .iaload, 1)]
set_option maxRecDepth 20000 in
theorem dn_396_0_0_ok : dn_396_0_0.all (fun q => decide (decode (xm_b n_396) q.1 = .ok (q.2.1, q.2.2))) = true := xa_g_ok (by decide +kernel)
def dn_396_0_1 : List (Nat × Instr × Nat) := [(38, .i2l, 1), (39, .lstore_n 2, 1), (40, .aload_n 0, 1), (41, .getfield 152, 3), (44, .bipush 7, 2), (46, .iload_n 1, 1), (47, .imul, 1), (48, .aload_n 0, 1), (49, .getfield 43, 3), (52, .iload_n 1, 1), (53, .iaload, 1), (54, .iadd, 1), (55, .iaload, 1), (56, .i2l, 1), (57, .lstore 4, 2), (59, .iconst (-1), 1), (60, .istore 6, 2), (62, .aload_n 0, 1), (63, .getfield 40, 3), (66, .iload_n 1, 1), (67, .iaload, 1), (68, .i2l, 1), (69, .aload_n 0, 1), (70, .getfield 40, 3), (73, .iload_n 1, 1)]
set_option maxRecDepth 20000 in
theorem dn_396_0_1_ok : dn_396_0_1.all (fun q => decide (decode (xm_b n_396) q.1 = .ok (q.2.1, q.2.2))) = true := xa_g_ok (by decide +kernel)
def dn_396_0_2 : List (Nat × Instr × Nat) := [(74, .iaload, 1), (75, .i2l, 1), (76, .lmul, 1), (77, .lconst 1, 1), (78, .ladd, 1), (79, .lstore 7, 2), (81, .iconst 0, 1), (82, .istore 9, 2), (84, .iload 9, 2), (86, .aload_n 0, 1), (87, .getfield 279, 3), (90, .if_icmp .ge 93, 3), (93, .aload_n 0, 1), (94, .getfield 8, 3), (97, .iload 9, 2), (99, .invokestatic 774, 3), (102, .iaload, 1), (103, .istore 10, 2), (105, .iload 10, 2), (107, .iconst 4, 1), (108, .if_icmp .lt 10, 3), (111, .iload 10, 2), (113, .bipush 8, 2), (115, .if_icmp .ne 62, 3), (118, .aload_n 0, 1)]
set_option maxRecDepth 20000 in
theorem dn_396_0_2_ok : dn_396_0_2.all (fun q => decide (decode (xm_b n_396) q.1 = .ok (q.2.1, q.2.2))) = true := xa_g_ok (by decide +kernel)
def dn_396_0_3 : List (Nat × Instr × Nat) := [(119, .iload 9, 2), (121, .iconst 0, 1), (122, .invokevirtual 777, 3), (125, .i2l, 1), (126, .lload_n 2, 1), (127, .lsub, 1), (128, .lstore 11, 2), (130, .aload_n 0, 1), (131, .iload 9, 2), (133, .iconst 1, 1), (134, .invokevirtual 777, 3), (137, .i2l, 1), (138, .lload 4, 2), (140, .lsub, 1), (141, .lstore 13, 2), (143, .lload 11, 2), (145, .lload 11, 2), (147, .lmul, 1), (148, .lload 13, 2), (150, .lload 13, 2), (152, .lmul, 1), (153, .ladd, 1), (154, .lload 7, 2), (156, .lcmp, 1), (157, .ifCond .ge 20, 3)]
set_option maxRecDepth 20000 in
theorem dn_396_0_3_ok : dn_396_0_3.all (fun q => decide (decode (xm_b n_396) q.1 = .ok (q.2.1, q.2.2))) = true := xa_g_ok (by decide +kernel)
def dn_396_1_0 : List (Nat × Instr × Nat) := [(160, .lload 11, 2), (162, .lload 11, 2), (164, .lmul, 1), (165, .lload 13, 2), (167, .lload 13, 2), (169, .lmul, 1), (170, .ladd, 1), (171, .lstore 7, 2), (173, .iload 9, 2), (175, .istore 6, 2), (177, .iinc 9 1, 3), (180, .goto (-96), 3), (183, .iload 6, 2), (185, .ifCond .ge 5, 3), (188, .iconst 0, 1), (189, .ireturn, 1), (190, .aload_n 0, 1), (191, .getfield 8, 3), (194, .iload 6, 2), (196, .invokestatic 774, 3), (199, .iaload, 1), (200, .istore 9, 2), (202, .iload 9, 2), (204, .iconst 4, 1), (205, .if_icmp .ge 93, 3)]
set_option maxRecDepth 20000 in
theorem dn_396_1_0_ok : dn_396_1_0.all (fun q => decide (decode (xm_b n_396) q.1 = .ok (q.2.1, q.2.2))) = true := xa_g_ok (by decide +kernel)
def dn_396_1_1 : List (Nat × Instr × Nat) := [(208, .sipush 20704, 3), (211, .bipush 33, 2), (213, .iload 9, 2), (215, .imul, 1), (216, .iadd, 1), (217, .istore 10, 2), (219, .iconst 1, 1), (220, .istore 11, 2), (222, .aload_n 0, 1), (223, .getfield 8, 3), (226, .iload 10, 2), (228, .iload 11, 2), (230, .iadd, 1), (231, .iaload, 1), (232, .iload 6, 2), (234, .if_icmp .eq 9, 3), (237, .iinc 11 1, 3), (240, .goto (-18), 3), (243, .iload 11, 2), (245, .istore 12, 2), (247, .iload 12, 2), (249, .aload_n 0, 1), (250, .getfield 8, 3), (253, .iload 10, 2), (255, .iaload, 1)]
set_option maxRecDepth 20000 in
theorem dn_396_1_1_ok : dn_396_1_1.all (fun q => decide (decode (xm_b n_396) q.1 = .ok (q.2.1, q.2.2))) = true := xa_g_ok (by decide +kernel)
def dn_396_1_2 : List (Nat × Instr × Nat) := [(256, .if_icmp .ge 31, 3), (259, .aload_n 0, 1), (260, .getfield 8, 3), (263, .iload 10, 2), (265, .iload 12, 2), (267, .iadd, 1), (268, .aload_n 0, 1), (269, .getfield 8, 3), (272, .iload 10, 2), (274, .iload 12, 2), (276, .iadd, 1), (277, .iconst 1, 1), (278, .iadd, 1), (279, .iaload, 1), (280, .iastore, 1), (281, .iinc 12 1, 3), (284, .goto (-37), 3), (287, .aload_n 0, 1), (288, .getfield 8, 3), (291, .iload 10, 2), (293, .dup2, 1), (294, .iaload, 1), (295, .iconst 1, 1), (296, .isub, 1), (297, .iastore, 1)]
set_option maxRecDepth 20000 in
theorem dn_396_1_2_ok : dn_396_1_2.all (fun q => decide (decode (xm_b n_396) q.1 = .ok (q.2.1, q.2.2))) = true := xa_g_ok (by decide +kernel)
def dn_396_1_3 : List (Nat × Instr × Nat) := [(298, .aload_n 0, 1), (299, .getfield 8, 3), (302, .iload 6, 2), (304, .invokestatic 774, 3), (307, .iconst 4, 1), (308, .iload_n 1, 1), (309, .iadd, 1), (310, .iastore, 1), (311, .aload_n 0, 1), (312, .getfield 8, 3), (315, .iload 6, 2), (317, .invokestatic 774, 3), (320, .iconst 3, 1), (321, .iadd, 1), (322, .iconst 0, 1), (323, .iastore, 1), (324, .aload_n 0, 1), (325, .getfield 8, 3), (328, .iload_n 1, 1), (329, .invokestatic 294, 3), (332, .iconst 1, 1), (333, .iadd, 1), (334, .iload 6, 2), (336, .iastore, 1), (337, .aload_n 0, 1)]
set_option maxRecDepth 20000 in
theorem dn_396_1_3_ok : dn_396_1_3.all (fun q => decide (decode (xm_b n_396) q.1 = .ok (q.2.1, q.2.2))) = true := xa_g_ok (by decide +kernel)
def dn_396_2_0 : List (Nat × Instr × Nat) := [(338, .iconst (-1), 1), (339, .invokevirtual 762, 3), (342, .aload_n 0, 1), (343, .bipush 6, 2), (345, .iload_n 1, 1), (346, .iload 6, 2), (348, .invokevirtual 693, 3), (351, .iconst 1, 1), (352, .ireturn, 1)]
set_option maxRecDepth 20000 in
theorem dn_396_2_0_ok : dn_396_2_0.all (fun q => decide (decode (xm_b n_396) q.1 = .ok (q.2.1, q.2.2))) = true := xa_g_ok (by decide +kernel)
def te_396_0 : Nat → eE := (e_T 18 (e_T 9 (e_T 4 (e_T 0 (e_L 0 (0, ei_load 0 2 1, 0, 0)) (e_T 1 (e_L 1 (0, ei_getf eft elay 12 0 4, 0, 0)) (e_L 4 (0, ei_load 1 0 5, 0, 0)))) (e_T 5 (e_L 5 (2, e_nof, 268, 1)) (e_T 8 (e_L 8 (0, ei_push (0, 1) 9, 0, 0)) (e_L 9 (0, ei_bin eF_add 10, 0, 0))))) (e_T 14 (e_T 10 (e_L 10 (0, ei_ald elay false 11, 0, 0)) (e_T 11 (e_L 11 (0, ei_if1 2 16 14, 0, 0)) (e_L 14 (0, ei_push (0, 0) 15, 0, 0)))) (e_T 16 (e_T 15 (e_L 15 (1, e_nof, 4, 0)) (e_L 16 (0, ei_load 0 2 17, 0, 0))) (e_T 17 (e_L 17 (0, ei_load 1 0 18, 0, 0)) (e_L 18 (0, ei_push (0, 0) 19, 0, 0)))))) (e_T 29 (e_T 23 (e_T 19 (e_L 19 (2, e_nof, 301, 3)) (e_T 22 (e_L 22 (0, ei_load 0 2 23, 0, 0)) (e_L 23 (0, ei_getf eft elay 12 55 26, 0, 0)))) (e_T 26 (e_L 26 (0, ei_push (0, 7) 28, 0, 0)) (e_T 28 (e_L 28 (0, ei_load 1 0 29, 0, 0)) (e_L 29 (0, ei_bin eF_mul 30, 0, 0))))) (e_T 34 (e_T 30 (e_L 30 (0, ei_load 0 2 31, 0, 0)) (e_T 31 (e_L 31 (0, ei_getf eft elay 12 15 34, 0, 0)) (e_L 34 (0, ei_load 1 0 35, 0, 0)))) (e_T 36 (e_T 35 (e_L 35 (0, ei_ald elay false 36, 0, 0)) (e_L 36 (0, ei_bin eF_add 37, 0, 0))) (e_T 37 (e_L 37 (0, ei_ald elay false 38, 0, 0)) (e_L 38 (0, ei_un (fun x => (4, x)) 39, 0, 0)))))))
set_option maxRecDepth 20000 in
set_option maxHeartbeats 4000000 in
theorem te_396_0_ok : ∀ pc, e_EOq eft cls elay eI n_396 pc (te_396_0 pc) :=
  (e_Tok2
  (e_Tok2
  (e_Tok2
  (e_Tok2
  (e_Lok (ld_aload_n_0 (x_dk dn_396_0_0_ok 0 rfl)))
  (e_Tok2
  (e_Lok (lk_12_8g ho_396 (x_dk dn_396_0_0_ok 1 rfl)))
  (e_Lok (ld_iload_n_1 (x_dk dn_396_0_0_ok 2 rfl)))))
  (e_Tok2
  (e_Lok (lk_12_294 ho_396 (x_dk dn_396_0_0_ok 3 rfl)))
  (e_Tok2
  (e_Lok (ps_iconst_1 (x_dk dn_396_0_0_ok 4 rfl)))
  (e_Lok (sm_iadd (x_dk dn_396_0_0_ok 5 rfl))))))
  (e_Tok2
  (e_Tok2
  (e_Lok (sm_iaload (x_dk dn_396_0_0_ok 6 rfl)))
  (e_Tok2
  (e_Lok (e_st (I := eI) (er_iflt (off := 5) (tg := 16) (x_dk dn_396_0_0_ok 7 rfl) (by decide)) nx_if1))
  (e_Lok (ps_iconst_0 (x_dk dn_396_0_0_ok 8 rfl)))))
  (e_Tok2
  (e_Tok2
  (e_Lok (e_rt (I := eI) (k := 4) ⟨(x_dk dn_396_0_0_ok 9 rfl), rfl⟩))
  (e_Lok (ld_aload_n_0 (x_dk dn_396_0_0_ok 10 rfl))))
  (e_Tok2
  (e_Lok (ld_iload_n_1 (x_dk dn_396_0_0_ok 11 rfl)))
  (e_Lok (ps_iconst_0 (x_dk dn_396_0_0_ok 12 rfl)))))))
  (e_Tok2
  (e_Tok2
  (e_Tok2
  (e_Lok (lk_12_397 ho_396 (x_dk dn_396_0_0_ok 13 rfl)))
  (e_Tok2
  (e_Lok (ld_aload_n_0 (x_dk dn_396_0_0_ok 14 rfl)))
  (e_Lok (lk_12_149g ho_396 (x_dk dn_396_0_0_ok 15 rfl)))))
  (e_Tok2
  (e_Lok (ps_bipush_7 (x_dk dn_396_0_0_ok 16 rfl)))
  (e_Tok2
  (e_Lok (ld_iload_n_1 (x_dk dn_396_0_0_ok 17 rfl)))
  (e_Lok (sm_imul (x_dk dn_396_0_0_ok 18 rfl))))))
  (e_Tok2
  (e_Tok2
  (e_Lok (ld_aload_n_0 (x_dk dn_396_0_0_ok 19 rfl)))
  (e_Tok2
  (e_Lok (lk_12_43g ho_396 (x_dk dn_396_0_0_ok 20 rfl)))
  (e_Lok (ld_iload_n_1 (x_dk dn_396_0_0_ok 21 rfl)))))
  (e_Tok2
  (e_Tok2
  (e_Lok (sm_iaload (x_dk dn_396_0_0_ok 22 rfl)))
  (e_Lok (sm_iadd (x_dk dn_396_0_0_ok 23 rfl))))
  (e_Tok2
  (e_Lok (sm_iaload (x_dk dn_396_0_0_ok 24 rfl)))
  (e_Lok (e_st (I := eI) (er_i2l (x_dk dn_396_0_1_ok 0 rfl)) (nx_un (fun _ => rfl)))))))))
def te_396_26 : Nat → eE := (e_T 56 (e_T 47 (e_T 41 (e_T 39 (e_L 39 (0, ei_stor 2 1 40, 0, 0)) (e_T 40 (e_L 40 (0, ei_load 0 2 41, 0, 0)) (e_L 41 (0, ei_getf eft elay 12 56 44, 0, 0)))) (e_T 44 (e_L 44 (0, ei_push (0, 7) 46, 0, 0)) (e_T 46 (e_L 46 (0, ei_load 1 0 47, 0, 0)) (e_L 47 (0, ei_bin eF_mul 48, 0, 0))))) (e_T 52 (e_T 48 (e_L 48 (0, ei_load 0 2 49, 0, 0)) (e_T 49 (e_L 49 (0, ei_getf eft elay 12 15 52, 0, 0)) (e_L 52 (0, ei_load 1 0 53, 0, 0)))) (e_T 54 (e_T 53 (e_L 53 (0, ei_ald elay false 54, 0, 0)) (e_L 54 (0, ei_bin eF_add 55, 0, 0))) (e_T 55 (e_L 55 (0, ei_ald elay false 56, 0, 0)) (e_L 56 (0, ei_un (fun x => (4, x)) 57, 0, 0)))))) (e_T 66 (e_T 60 (e_T 57 (e_L 57 (0, ei_stor 4 1 59, 0, 0)) (e_T 59 (e_L 59 (0, ei_push (0, (-1)) 60, 0, 0)) (e_L 60 (0, ei_stor 6 0 62, 0, 0)))) (e_T 62 (e_L 62 (0, ei_load 0 2 63, 0, 0)) (e_T 63 (e_L 63 (0, ei_getf eft elay 12 14 66, 0, 0)) (e_L 66 (0, ei_load 1 0 67, 0, 0))))) (e_T 69 (e_T 67 (e_L 67 (0, ei_ald elay false 68, 0, 0)) (e_T 68 (e_L 68 (0, ei_un (fun x => (4, x)) 69, 0, 0)) (e_L 69 (0, ei_load 0 2 70, 0, 0)))) (e_T 73 (e_T 70 (e_L 70 (0, ei_getf eft elay 12 14 73, 0, 0)) (e_L 73 (0, ei_load 1 0 74, 0, 0))) (e_T 74 (e_L 74 (0, ei_ald elay false 75, 0, 0)) (e_L 75 (0, ei_un (fun x => (4, x)) 76, 0, 0)))))))
set_option maxRecDepth 20000 in
set_option maxHeartbeats 4000000 in
theorem te_396_26_ok : ∀ pc, e_EOq eft cls elay eI n_396 pc (te_396_26 pc) :=
  (e_Tok2
  (e_Tok2
  (e_Tok2
  (e_Tok2
  (e_Lok (e_st (I := eI) (er_lstore_n (i := 2) (x_dk dn_396_0_1_ok 1 rfl) (by decide +kernel)) nx_stor))
  (e_Tok2
  (e_Lok (ld_aload_n_0 (x_dk dn_396_0_1_ok 2 rfl)))
  (e_Lok (lk_12_152g ho_396 (x_dk dn_396_0_1_ok 3 rfl)))))
  (e_Tok2
  (e_Lok (ps_bipush_7 (x_dk dn_396_0_1_ok 4 rfl)))
  (e_Tok2
  (e_Lok (ld_iload_n_1 (x_dk dn_396_0_1_ok 5 rfl)))
  (e_Lok (sm_imul (x_dk dn_396_0_1_ok 6 rfl))))))
  (e_Tok2
  (e_Tok2
  (e_Lok (ld_aload_n_0 (x_dk dn_396_0_1_ok 7 rfl)))
  (e_Tok2
  (e_Lok (lk_12_43g ho_396 (x_dk dn_396_0_1_ok 8 rfl)))
  (e_Lok (ld_iload_n_1 (x_dk dn_396_0_1_ok 9 rfl)))))
  (e_Tok2
  (e_Tok2
  (e_Lok (sm_iaload (x_dk dn_396_0_1_ok 10 rfl)))
  (e_Lok (sm_iadd (x_dk dn_396_0_1_ok 11 rfl))))
  (e_Tok2
  (e_Lok (sm_iaload (x_dk dn_396_0_1_ok 12 rfl)))
  (e_Lok (e_st (I := eI) (er_i2l (x_dk dn_396_0_1_ok 13 rfl)) (nx_un (fun _ => rfl))))))))
  (e_Tok2
  (e_Tok2
  (e_Tok2
  (e_Lok (e_st (I := eI) (er_lstore (i := 4) (x_dk dn_396_0_1_ok 14 rfl) (by decide +kernel)) nx_stor))
  (e_Tok2
  (e_Lok (ps_iconst_m1 (x_dk dn_396_0_1_ok 15 rfl)))
  (e_Lok (e_st (I := eI) (er_istore (i := 6) (x_dk dn_396_0_1_ok 16 rfl) (by decide +kernel)) nx_stor))))
  (e_Tok2
  (e_Lok (ld_aload_n_0 (x_dk dn_396_0_1_ok 17 rfl)))
  (e_Tok2
  (e_Lok (lk_12_40g ho_396 (x_dk dn_396_0_1_ok 18 rfl)))
  (e_Lok (ld_iload_n_1 (x_dk dn_396_0_1_ok 19 rfl))))))
  (e_Tok2
  (e_Tok2
  (e_Lok (sm_iaload (x_dk dn_396_0_1_ok 20 rfl)))
  (e_Tok2
  (e_Lok (e_st (I := eI) (er_i2l (x_dk dn_396_0_1_ok 21 rfl)) (nx_un (fun _ => rfl))))
  (e_Lok (ld_aload_n_0 (x_dk dn_396_0_1_ok 22 rfl)))))
  (e_Tok2
  (e_Tok2
  (e_Lok (lk_12_40g ho_396 (x_dk dn_396_0_1_ok 23 rfl)))
  (e_Lok (ld_iload_n_1 (x_dk dn_396_0_1_ok 24 rfl))))
  (e_Tok2
  (e_Lok (sm_iaload (x_dk dn_396_0_2_ok 0 rfl)))
  (e_Lok (e_st (I := eI) (er_i2l (x_dk dn_396_0_2_ok 1 rfl)) (nx_un (fun _ => rfl)))))))))
def te_396_52 : Nat → eE := (e_T 97 (e_T 82 (e_T 78 (e_T 76 (e_L 76 (0, ei_binL eG_mul 77, 0, 0)) (e_T 77 (e_L 77 (0, ei_push (4, 1) 78, 0, 0)) (e_L 78 (0, ei_binL eG_add 79, 0, 0)))) (e_T 79 (e_L 79 (0, ei_stor 7 1 81, 0, 0)) (e_T 81 (e_L 81 (0, ei_push (0, 0) 82, 0, 0)) (e_L 82 (0, ei_stor 9 0 84, 0, 0))))) (e_T 87 (e_T 84 (e_L 84 (0, ei_load 9 0 86, 0, 0)) (e_T 86 (e_L 86 (0, ei_load 0 2 87, 0, 0)) (e_L 87 (0, ei_getf eft elay 12 40 90, 0, 0)))) (e_T 93 (e_T 90 (e_L 90 (0, ei_if2 3 183 93, 0, 0)) (e_L 93 (0, ei_load 0 2 94, 0, 0))) (e_T 94 (e_L 94 (0, ei_getf eft elay 12 0 97, 0, 0)) (e_L 97 (0, ei_load 9 0 99, 0, 0)))))) (e_T 108 (e_T 103 (e_T 99 (e_L 99 (2, e_nof, 392, 1)) (e_T 102 (e_L 102 (0, ei_ald elay false 103, 0, 0)) (e_L 103 (0, ei_stor 10 0 105, 0, 0)))) (e_T 105 (e_L 105 (0, ei_load 10 0 107, 0, 0)) (e_T 107 (e_L 107 (0, ei_push (0, 4) 108, 0, 0)) (e_L 108 (0, ei_if2 2 118 111, 0, 0))))) (e_T 115 (e_T 111 (e_L 111 (0, ei_load 10 0 113, 0, 0)) (e_T 113 (e_L 113 (0, ei_push (0, 8) 115, 0, 0)) (e_L 115 (0, ei_if2 1 177 118, 0, 0)))) (e_T 119 (e_T 118 (e_L 118 (0, ei_load 0 2 119, 0, 0)) (e_L 119 (0, ei_load 9 0 121, 0, 0))) (e_T 121 (e_L 121 (0, ei_push (0, 0) 122, 0, 0)) (e_L 122 (2, e_nof, 395, 3)))))))
set_option maxRecDepth 20000 in
set_option maxHeartbeats 4000000 in
theorem te_396_52_ok : ∀ pc, e_EOq eft cls elay eI n_396 pc (te_396_52 pc) :=
  (e_Tok2
  (e_Tok2
  (e_Tok2
  (e_Tok2
  (e_Lok (e_st (I := eI) (er_lmul (x_dk dn_396_0_2_ok 2 rfl)) (nx_binL bG_lmul)))
  (e_Tok2
  (e_Lok (ps_lconst_1 (x_dk dn_396_0_2_ok 3 rfl)))
  (e_Lok (e_st (I := eI) (er_ladd (x_dk dn_396_0_2_ok 4 rfl)) (nx_binL bG_ladd)))))
  (e_Tok2
  (e_Lok (e_st (I := eI) (er_lstore (i := 7) (x_dk dn_396_0_2_ok 5 rfl) (by decide +kernel)) nx_stor))
  (e_Tok2
  (e_Lok (ps_iconst_0 (x_dk dn_396_0_2_ok 6 rfl)))
  (e_Lok (e_st (I := eI) (er_istore (i := 9) (x_dk dn_396_0_2_ok 7 rfl) (by decide +kernel)) nx_stor)))))
  (e_Tok2
  (e_Tok2
  (e_Lok (ld_iload_9 (x_dk dn_396_0_2_ok 8 rfl)))
  (e_Tok2
  (e_Lok (ld_aload_n_0 (x_dk dn_396_0_2_ok 9 rfl)))
  (e_Lok (lk_12_279g ho_396 (x_dk dn_396_0_2_ok 10 rfl)))))
  (e_Tok2
  (e_Tok2
  (e_Lok (e_st (I := eI) (er_icmpge (off := 93) (tg := 183) (x_dk dn_396_0_2_ok 11 rfl) (by decide)) nx_if2))
  (e_Lok (ld_aload_n_0 (x_dk dn_396_0_2_ok 12 rfl))))
  (e_Tok2
  (e_Lok (lk_12_8g ho_396 (x_dk dn_396_0_2_ok 13 rfl)))
  (e_Lok (ld_iload_9 (x_dk dn_396_0_2_ok 14 rfl)))))))
  (e_Tok2
  (e_Tok2
  (e_Tok2
  (e_Lok (lk_12_774 ho_396 (x_dk dn_396_0_2_ok 15 rfl)))
  (e_Tok2
  (e_Lok (sm_iaload (x_dk dn_396_0_2_ok 16 rfl)))
  (e_Lok (e_st (I := eI) (er_istore (i := 10) (x_dk dn_396_0_2_ok 17 rfl) (by decide +kernel)) nx_stor))))
  (e_Tok2
  (e_Lok (ld_iload_10 (x_dk dn_396_0_2_ok 18 rfl)))
  (e_Tok2
  (e_Lok (ps_iconst_4 (x_dk dn_396_0_2_ok 19 rfl)))
  (e_Lok (e_st (I := eI) (er_icmplt (off := 10) (tg := 118) (x_dk dn_396_0_2_ok 20 rfl) (by decide)) nx_if2)))))
  (e_Tok2
  (e_Tok2
  (e_Lok (ld_iload_10 (x_dk dn_396_0_2_ok 21 rfl)))
  (e_Tok2
  (e_Lok (ps_bipush_8 (x_dk dn_396_0_2_ok 22 rfl)))
  (e_Lok (e_st (I := eI) (er_icmpne (off := 62) (tg := 177) (x_dk dn_396_0_2_ok 23 rfl) (by decide)) nx_if2))))
  (e_Tok2
  (e_Tok2
  (e_Lok (ld_aload_n_0 (x_dk dn_396_0_2_ok 24 rfl)))
  (e_Lok (ld_iload_9 (x_dk dn_396_0_3_ok 0 rfl))))
  (e_Tok2
  (e_Lok (ps_iconst_0 (x_dk dn_396_0_3_ok 1 rfl)))
  (e_Lok (lk_12_777 ho_396 (x_dk dn_396_0_3_ok 2 rfl))))))))
def te_396_78 : Nat → eE := (e_T 143 (e_T 131 (e_T 127 (e_T 125 (e_L 125 (0, ei_un (fun x => (4, x)) 126, 0, 0)) (e_T 126 (e_L 126 (0, ei_load 2 1 127, 0, 0)) (e_L 127 (0, ei_binL eG_sub 128, 0, 0)))) (e_T 128 (e_L 128 (0, ei_stor 11 1 130, 0, 0)) (e_T 130 (e_L 130 (0, ei_load 0 2 131, 0, 0)) (e_L 131 (0, ei_load 9 0 133, 0, 0))))) (e_T 137 (e_T 133 (e_L 133 (0, ei_push (0, 1) 134, 0, 0)) (e_T 134 (e_L 134 (2, e_nof, 395, 3)) (e_L 137 (0, ei_un (fun x => (4, x)) 138, 0, 0)))) (e_T 140 (e_T 138 (e_L 138 (0, ei_load 4 1 140, 0, 0)) (e_L 140 (0, ei_binL eG_sub 141, 0, 0))) (e_T 141 (e_L 141 (0, ei_stor 13 1 143, 0, 0)) (e_L 143 (0, ei_load 11 1 145, 0, 0)))))) (e_T 153 (e_T 148 (e_T 145 (e_L 145 (0, ei_load 11 1 147, 0, 0)) (e_T 147 (e_L 147 (0, ei_binL eG_mul 148, 0, 0)) (e_L 148 (0, ei_load 13 1 150, 0, 0)))) (e_T 150 (e_L 150 (0, ei_load 13 1 152, 0, 0)) (e_T 152 (e_L 152 (0, ei_binL eG_mul 153, 0, 0)) (e_L 153 (0, ei_binL eG_add 154, 0, 0))))) (e_T 157 (e_T 154 (e_L 154 (0, ei_load 7 1 156, 0, 0)) (e_T 156 (e_L 156 (0, ei_binL eG_cmp 157, 0, 0)) (e_L 157 (0, ei_if1 3 177 160, 0, 0)))) (e_T 162 (e_T 160 (e_L 160 (0, ei_load 11 1 162, 0, 0)) (e_L 162 (0, ei_load 11 1 164, 0, 0))) (e_T 164 (e_L 164 (0, ei_binL eG_mul 165, 0, 0)) (e_L 165 (0, ei_load 13 1 167, 0, 0)))))))
set_option maxRecDepth 20000 in
set_option maxHeartbeats 4000000 in
theorem te_396_78_ok : ∀ pc, e_EOq eft cls elay eI n_396 pc (te_396_78 pc) :=
  (e_Tok2
  (e_Tok2
  (e_Tok2
  (e_Tok2
  (e_Lok (e_st (I := eI) (er_i2l (x_dk dn_396_0_3_ok 3 rfl)) (nx_un (fun _ => rfl))))
  (e_Tok2
  (e_Lok (ld_lload_n_2 (x_dk dn_396_0_3_ok 4 rfl)))
  (e_Lok (e_st (I := eI) (er_lsub (x_dk dn_396_0_3_ok 5 rfl)) (nx_binL bG_lsub)))))
  (e_Tok2
  (e_Lok (e_st (I := eI) (er_lstore (i := 11) (x_dk dn_396_0_3_ok 6 rfl) (by decide +kernel)) nx_stor))
  (e_Tok2
  (e_Lok (ld_aload_n_0 (x_dk dn_396_0_3_ok 7 rfl)))
  (e_Lok (ld_iload_9 (x_dk dn_396_0_3_ok 8 rfl))))))
  (e_Tok2
  (e_Tok2
  (e_Lok (ps_iconst_1 (x_dk dn_396_0_3_ok 9 rfl)))
  (e_Tok2
  (e_Lok (lk_12_777 ho_396 (x_dk dn_396_0_3_ok 10 rfl)))
  (e_Lok (e_st (I := eI) (er_i2l (x_dk dn_396_0_3_ok 11 rfl)) (nx_un (fun _ => rfl))))))
  (e_Tok2
  (e_Tok2
  (e_Lok (ld_lload_4 (x_dk dn_396_0_3_ok 12 rfl)))
  (e_Lok (e_st (I := eI) (er_lsub (x_dk dn_396_0_3_ok 13 rfl)) (nx_binL bG_lsub))))
  (e_Tok2
  (e_Lok (e_st (I := eI) (er_lstore (i := 13) (x_dk dn_396_0_3_ok 14 rfl) (by decide +kernel)) nx_stor))
  (e_Lok (ld_lload_11 (x_dk dn_396_0_3_ok 15 rfl)))))))
  (e_Tok2
  (e_Tok2
  (e_Tok2
  (e_Lok (ld_lload_11 (x_dk dn_396_0_3_ok 16 rfl)))
  (e_Tok2
  (e_Lok (e_st (I := eI) (er_lmul (x_dk dn_396_0_3_ok 17 rfl)) (nx_binL bG_lmul)))
  (e_Lok (ld_lload_13 (x_dk dn_396_0_3_ok 18 rfl)))))
  (e_Tok2
  (e_Lok (ld_lload_13 (x_dk dn_396_0_3_ok 19 rfl)))
  (e_Tok2
  (e_Lok (e_st (I := eI) (er_lmul (x_dk dn_396_0_3_ok 20 rfl)) (nx_binL bG_lmul)))
  (e_Lok (e_st (I := eI) (er_ladd (x_dk dn_396_0_3_ok 21 rfl)) (nx_binL bG_ladd))))))
  (e_Tok2
  (e_Tok2
  (e_Lok (ld_lload_7 (x_dk dn_396_0_3_ok 22 rfl)))
  (e_Tok2
  (e_Lok (e_st (I := eI) (er_lcmp (x_dk dn_396_0_3_ok 23 rfl)) (nx_binL bG_lcmp)))
  (e_Lok (e_st (I := eI) (er_ifge (off := 20) (tg := 177) (x_dk dn_396_0_3_ok 24 rfl) (by decide)) nx_if1))))
  (e_Tok2
  (e_Tok2
  (e_Lok (ld_lload_11 (x_dk dn_396_1_0_ok 0 rfl)))
  (e_Lok (ld_lload_11 (x_dk dn_396_1_0_ok 1 rfl))))
  (e_Tok2
  (e_Lok (e_st (I := eI) (er_lmul (x_dk dn_396_1_0_ok 2 rfl)) (nx_binL bG_lmul)))
  (e_Lok (ld_lload_13 (x_dk dn_396_1_0_ok 3 rfl))))))))
def te_396_104 : Nat → eE := (e_T 190 (e_T 175 (e_T 170 (e_T 167 (e_L 167 (0, ei_load 13 1 169, 0, 0)) (e_T 169 (e_L 169 (0, ei_binL eG_mul 170, 0, 0)) (e_L 170 (0, ei_binL eG_add 171, 0, 0)))) (e_T 171 (e_L 171 (0, ei_stor 7 1 173, 0, 0)) (e_T 173 (e_L 173 (0, ei_load 9 0 175, 0, 0)) (e_L 175 (0, ei_stor 6 0 177, 0, 0))))) (e_T 183 (e_T 177 (e_L 177 (0, ei_inc 9 1 180, 0, 0)) (e_T 180 (e_L 180 (0, ei_goto 84, 0, 0)) (e_L 183 (0, ei_load 6 0 185, 0, 0)))) (e_T 188 (e_T 185 (e_L 185 (0, ei_if1 3 190 188, 0, 0)) (e_L 188 (0, ei_push (0, 0) 189, 0, 0))) (e_T 189 (e_L 189 (1, e_nof, 4, 0)) (e_L 190 (0, ei_load 0 2 191, 0, 0)))))) (e_T 202 (e_T 196 (e_T 191 (e_L 191 (0, ei_getf eft elay 12 0 194, 0, 0)) (e_T 194 (e_L 194 (0, ei_load 6 0 196, 0, 0)) (e_L 196 (2, e_nof, 392, 1)))) (e_T 199 (e_L 199 (0, ei_ald elay false 200, 0, 0)) (e_T 200 (e_L 200 (0, ei_stor 9 0 202, 0, 0)) (e_L 202 (0, ei_load 9 0 204, 0, 0))))) (e_T 208 (e_T 204 (e_L 204 (0, ei_push (0, 4) 205, 0, 0)) (e_T 205 (e_L 205 (0, ei_if2 3 298 208, 0, 0)) (e_L 208 (0, ei_push (0, 20704) 211, 0, 0)))) (e_T 213 (e_T 211 (e_L 211 (0, ei_push (0, 33) 213, 0, 0)) (e_L 213 (0, ei_load 9 0 215, 0, 0))) (e_T 215 (e_L 215 (0, ei_bin eF_mul 216, 0, 0)) (e_L 216 (0, ei_bin eF_add 217, 0, 0)))))))
set_option maxRecDepth 20000 in
set_option maxHeartbeats 4000000 in
theorem te_396_104_ok : ∀ pc, e_EOq eft cls elay eI n_396 pc (te_396_104 pc) :=
  (e_Tok2
  (e_Tok2
  (e_Tok2
  (e_Tok2
  (e_Lok (ld_lload_13 (x_dk dn_396_1_0_ok 4 rfl)))
  (e_Tok2
  (e_Lok (e_st (I := eI) (er_lmul (x_dk dn_396_1_0_ok 5 rfl)) (nx_binL bG_lmul)))
  (e_Lok (e_st (I := eI) (er_ladd (x_dk dn_396_1_0_ok 6 rfl)) (nx_binL bG_ladd)))))
  (e_Tok2
  (e_Lok (e_st (I := eI) (er_lstore (i := 7) (x_dk dn_396_1_0_ok 7 rfl) (by decide +kernel)) nx_stor))
  (e_Tok2
  (e_Lok (ld_iload_9 (x_dk dn_396_1_0_ok 8 rfl)))
  (e_Lok (e_st (I := eI) (er_istore (i := 6) (x_dk dn_396_1_0_ok 9 rfl) (by decide +kernel)) nx_stor)))))
  (e_Tok2
  (e_Tok2
  (e_Lok (e_st (I := eI) (er_iinc (i := 9) (n := 1) (x_dk dn_396_1_0_ok 10 rfl) (by decide +kernel) (by decide)) nx_inc))
  (e_Tok2
  (e_Lok (e_st (I := eI) (er_goto (off := (-96)) (tg := 84) (x_dk dn_396_1_0_ok 11 rfl) (by decide)) nx_goto))
  (e_Lok (ld_iload_6 (x_dk dn_396_1_0_ok 12 rfl)))))
  (e_Tok2
  (e_Tok2
  (e_Lok (e_st (I := eI) (er_ifge (off := 5) (tg := 190) (x_dk dn_396_1_0_ok 13 rfl) (by decide)) nx_if1))
  (e_Lok (ps_iconst_0 (x_dk dn_396_1_0_ok 14 rfl))))
  (e_Tok2
  (e_Lok (e_rt (I := eI) (k := 4) ⟨(x_dk dn_396_1_0_ok 15 rfl), rfl⟩))
  (e_Lok (ld_aload_n_0 (x_dk dn_396_1_0_ok 16 rfl)))))))
  (e_Tok2
  (e_Tok2
  (e_Tok2
  (e_Lok (lk_12_8g ho_396 (x_dk dn_396_1_0_ok 17 rfl)))
  (e_Tok2
  (e_Lok (ld_iload_6 (x_dk dn_396_1_0_ok 18 rfl)))
  (e_Lok (lk_12_774 ho_396 (x_dk dn_396_1_0_ok 19 rfl)))))
  (e_Tok2
  (e_Lok (sm_iaload (x_dk dn_396_1_0_ok 20 rfl)))
  (e_Tok2
  (e_Lok (e_st (I := eI) (er_istore (i := 9) (x_dk dn_396_1_0_ok 21 rfl) (by decide +kernel)) nx_stor))
  (e_Lok (ld_iload_9 (x_dk dn_396_1_0_ok 22 rfl))))))
  (e_Tok2
  (e_Tok2
  (e_Lok (ps_iconst_4 (x_dk dn_396_1_0_ok 23 rfl)))
  (e_Tok2
  (e_Lok (e_st (I := eI) (er_icmpge (off := 93) (tg := 298) (x_dk dn_396_1_0_ok 24 rfl) (by decide)) nx_if2))
  (e_Lok (ps_sipush_20704 (x_dk dn_396_1_1_ok 0 rfl)))))
  (e_Tok2
  (e_Tok2
  (e_Lok (ps_bipush_33 (x_dk dn_396_1_1_ok 1 rfl)))
  (e_Lok (ld_iload_9 (x_dk dn_396_1_1_ok 2 rfl))))
  (e_Tok2
  (e_Lok (sm_imul (x_dk dn_396_1_1_ok 3 rfl)))
  (e_Lok (sm_iadd (x_dk dn_396_1_1_ok 4 rfl))))))))
def te_396_130 : Nat → eE := (e_T 240 (e_T 226 (e_T 220 (e_T 217 (e_L 217 (0, ei_stor 10 0 219, 0, 0)) (e_T 219 (e_L 219 (0, ei_push (0, 1) 220, 0, 0)) (e_L 220 (0, ei_stor 11 0 222, 0, 0)))) (e_T 222 (e_L 222 (0, ei_load 0 2 223, 0, 0)) (e_T 223 (e_L 223 (0, ei_getf eft elay 12 0 226, 0, 0)) (e_L 226 (0, ei_load 10 0 228, 0, 0))))) (e_T 231 (e_T 228 (e_L 228 (0, ei_load 11 0 230, 0, 0)) (e_T 230 (e_L 230 (0, ei_bin eF_add 231, 0, 0)) (e_L 231 (0, ei_ald elay false 232, 0, 0)))) (e_T 234 (e_T 232 (e_L 232 (0, ei_load 6 0 234, 0, 0)) (e_L 234 (0, ei_if2 0 243 237, 0, 0))) (e_T 237 (e_L 237 (0, ei_inc 11 1 240, 0, 0)) (e_L 240 (0, ei_goto 222, 0, 0)))))) (e_T 253 (e_T 247 (e_T 243 (e_L 243 (0, ei_load 11 0 245, 0, 0)) (e_T 245 (e_L 245 (0, ei_stor 12 0 247, 0, 0)) (e_L 247 (0, ei_load 12 0 249, 0, 0)))) (e_T 249 (e_L 249 (0, ei_load 0 2 250, 0, 0)) (e_T 250 (e_L 250 (0, ei_getf eft elay 12 0 253, 0, 0)) (e_L 253 (0, ei_load 10 0 255, 0, 0))))) (e_T 259 (e_T 255 (e_L 255 (0, ei_ald elay false 256, 0, 0)) (e_T 256 (e_L 256 (0, ei_if2 3 287 259, 0, 0)) (e_L 259 (0, ei_load 0 2 260, 0, 0)))) (e_T 263 (e_T 260 (e_L 260 (0, ei_getf eft elay 12 0 263, 0, 0)) (e_L 263 (0, ei_load 10 0 265, 0, 0))) (e_T 265 (e_L 265 (0, ei_load 12 0 267, 0, 0)) (e_L 267 (0, ei_bin eF_add 268, 0, 0)))))))
set_option maxRecDepth 20000 in
set_option maxHeartbeats 4000000 in
theorem te_396_130_ok : ∀ pc, e_EOq eft cls elay eI n_396 pc (te_396_130 pc) :=
  (e_Tok2
  (e_Tok2
  (e_Tok2
  (e_Tok2
  (e_Lok (e_st (I := eI) (er_istore (i := 10) (x_dk dn_396_1_1_ok 5 rfl) (by decide +kernel)) nx_stor))
  (e_Tok2
  (e_Lok (ps_iconst_1 (x_dk dn_396_1_1_ok 6 rfl)))
  (e_Lok (e_st (I := eI) (er_istore (i := 11) (x_dk dn_396_1_1_ok 7 rfl) (by decide +kernel)) nx_stor))))
  (e_Tok2
  (e_Lok (ld_aload_n_0 (x_dk dn_396_1_1_ok 8 rfl)))
  (e_Tok2
  (e_Lok (lk_12_8g ho_396 (x_dk dn_396_1_1_ok 9 rfl)))
  (e_Lok (ld_iload_10 (x_dk dn_396_1_1_ok 10 rfl))))))
  (e_Tok2
  (e_Tok2
  (e_Lok (ld_iload_11 (x_dk dn_396_1_1_ok 11 rfl)))
  (e_Tok2
  (e_Lok (sm_iadd (x_dk dn_396_1_1_ok 12 rfl)))
  (e_Lok (sm_iaload (x_dk dn_396_1_1_ok 13 rfl)))))
  (e_Tok2
  (e_Tok2
  (e_Lok (ld_iload_6 (x_dk dn_396_1_1_ok 14 rfl)))
  (e_Lok (e_st (I := eI) (er_icmpeq (off := 9) (tg := 243) (x_dk dn_396_1_1_ok 15 rfl) (by decide)) nx_if2)))
  (e_Tok2
  (e_Lok (e_st (I := eI) (er_iinc (i := 11) (n := 1) (x_dk dn_396_1_1_ok 16 rfl) (by decide +kernel) (by decide)) nx_inc))
  (e_Lok (e_st (I := eI) (er_goto (off := (-18)) (tg := 222) (x_dk dn_396_1_1_ok 17 rfl) (by decide)) nx_goto))))))
  (e_Tok2
  (e_Tok2
  (e_Tok2
  (e_Lok (ld_iload_11 (x_dk dn_396_1_1_ok 18 rfl)))
  (e_Tok2
  (e_Lok (e_st (I := eI) (er_istore (i := 12) (x_dk dn_396_1_1_ok 19 rfl) (by decide +kernel)) nx_stor))
  (e_Lok (ld_iload_12 (x_dk dn_396_1_1_ok 20 rfl)))))
  (e_Tok2
  (e_Lok (ld_aload_n_0 (x_dk dn_396_1_1_ok 21 rfl)))
  (e_Tok2
  (e_Lok (lk_12_8g ho_396 (x_dk dn_396_1_1_ok 22 rfl)))
  (e_Lok (ld_iload_10 (x_dk dn_396_1_1_ok 23 rfl))))))
  (e_Tok2
  (e_Tok2
  (e_Lok (sm_iaload (x_dk dn_396_1_1_ok 24 rfl)))
  (e_Tok2
  (e_Lok (e_st (I := eI) (er_icmpge (off := 31) (tg := 287) (x_dk dn_396_1_2_ok 0 rfl) (by decide)) nx_if2))
  (e_Lok (ld_aload_n_0 (x_dk dn_396_1_2_ok 1 rfl)))))
  (e_Tok2
  (e_Tok2
  (e_Lok (lk_12_8g ho_396 (x_dk dn_396_1_2_ok 2 rfl)))
  (e_Lok (ld_iload_10 (x_dk dn_396_1_2_ok 3 rfl))))
  (e_Tok2
  (e_Lok (ld_iload_12 (x_dk dn_396_1_2_ok 4 rfl)))
  (e_Lok (sm_iadd (x_dk dn_396_1_2_ok 5 rfl))))))))
def te_396_156 : Nat → eE := (e_T 288 (e_T 277 (e_T 272 (e_T 268 (e_L 268 (0, ei_load 0 2 269, 0, 0)) (e_T 269 (e_L 269 (0, ei_getf eft elay 12 0 272, 0, 0)) (e_L 272 (0, ei_load 10 0 274, 0, 0)))) (e_T 274 (e_L 274 (0, ei_load 12 0 276, 0, 0)) (e_T 276 (e_L 276 (0, ei_bin eF_add 277, 0, 0)) (e_L 277 (0, ei_push (0, 1) 278, 0, 0))))) (e_T 280 (e_T 278 (e_L 278 (0, ei_bin eF_add 279, 0, 0)) (e_T 279 (e_L 279 (0, ei_ald elay false 280, 0, 0)) (e_L 280 (0, ei_ast elay false 281, 0, 0)))) (e_T 284 (e_T 281 (e_L 281 (0, ei_inc 12 1 284, 0, 0)) (e_L 284 (0, ei_goto 247, 0, 0))) (e_T 287 (e_L 287 (0, ei_load 0 2 288, 0, 0)) (e_L 288 (0, ei_getf eft elay 12 0 291, 0, 0)))))) (e_T 297 (e_T 294 (e_T 291 (e_L 291 (0, ei_load 10 0 293, 0, 0)) (e_T 293 (e_L 293 (0, ei_stk ef_dup2 294, 0, 0)) (e_L 294 (0, ei_ald elay false 295, 0, 0)))) (e_T 295 (e_L 295 (0, ei_push (0, 1) 296, 0, 0)) (e_T 296 (e_L 296 (0, ei_bin eF_sub 297, 0, 0)) (e_L 297 (0, ei_ast elay false 298, 0, 0))))) (e_T 302 (e_T 298 (e_L 298 (0, ei_load 0 2 299, 0, 0)) (e_T 299 (e_L 299 (0, ei_getf eft elay 12 0 302, 0, 0)) (e_L 302 (0, ei_load 6 0 304, 0, 0)))) (e_T 307 (e_T 304 (e_L 304 (2, e_nof, 392, 1)) (e_L 307 (0, ei_push (0, 4) 308, 0, 0))) (e_T 308 (e_L 308 (0, ei_load 1 0 309, 0, 0)) (e_L 309 (0, ei_bin eF_add 310, 0, 0)))))))
set_option maxRecDepth 20000 in
set_option maxHeartbeats 4000000 in
theorem te_396_156_ok : ∀ pc, e_EOq eft cls elay eI n_396 pc (te_396_156 pc) :=
  (e_Tok2
  (e_Tok2
  (e_Tok2
  (e_Tok2
  (e_Lok (ld_aload_n_0 (x_dk dn_396_1_2_ok 6 rfl)))
  (e_Tok2
  (e_Lok (lk_12_8g ho_396 (x_dk dn_396_1_2_ok 7 rfl)))
  (e_Lok (ld_iload_10 (x_dk dn_396_1_2_ok 8 rfl)))))
  (e_Tok2
  (e_Lok (ld_iload_12 (x_dk dn_396_1_2_ok 9 rfl)))
  (e_Tok2
  (e_Lok (sm_iadd (x_dk dn_396_1_2_ok 10 rfl)))
  (e_Lok (ps_iconst_1 (x_dk dn_396_1_2_ok 11 rfl))))))
  (e_Tok2
  (e_Tok2
  (e_Lok (sm_iadd (x_dk dn_396_1_2_ok 12 rfl)))
  (e_Tok2
  (e_Lok (sm_iaload (x_dk dn_396_1_2_ok 13 rfl)))
  (e_Lok (sm_iastore (x_dk dn_396_1_2_ok 14 rfl)))))
  (e_Tok2
  (e_Tok2
  (e_Lok (e_st (I := eI) (er_iinc (i := 12) (n := 1) (x_dk dn_396_1_2_ok 15 rfl) (by decide +kernel) (by decide)) nx_inc))
  (e_Lok (e_st (I := eI) (er_goto (off := (-37)) (tg := 247) (x_dk dn_396_1_2_ok 16 rfl) (by decide)) nx_goto)))
  (e_Tok2
  (e_Lok (ld_aload_n_0 (x_dk dn_396_1_2_ok 17 rfl)))
  (e_Lok (lk_12_8g ho_396 (x_dk dn_396_1_2_ok 18 rfl)))))))
  (e_Tok2
  (e_Tok2
  (e_Tok2
  (e_Lok (ld_iload_10 (x_dk dn_396_1_2_ok 19 rfl)))
  (e_Tok2
  (e_Lok (e_st (I := eI) (er_dup2 (x_dk dn_396_1_2_ok 20 rfl)) (nx_stk bf_dup2)))
  (e_Lok (sm_iaload (x_dk dn_396_1_2_ok 21 rfl)))))
  (e_Tok2
  (e_Lok (ps_iconst_1 (x_dk dn_396_1_2_ok 22 rfl)))
  (e_Tok2
  (e_Lok (sm_isub (x_dk dn_396_1_2_ok 23 rfl)))
  (e_Lok (sm_iastore (x_dk dn_396_1_2_ok 24 rfl))))))
  (e_Tok2
  (e_Tok2
  (e_Lok (ld_aload_n_0 (x_dk dn_396_1_3_ok 0 rfl)))
  (e_Tok2
  (e_Lok (lk_12_8g ho_396 (x_dk dn_396_1_3_ok 1 rfl)))
  (e_Lok (ld_iload_6 (x_dk dn_396_1_3_ok 2 rfl)))))
  (e_Tok2
  (e_Tok2
  (e_Lok (lk_12_774 ho_396 (x_dk dn_396_1_3_ok 3 rfl)))
  (e_Lok (ps_iconst_4 (x_dk dn_396_1_3_ok 4 rfl))))
  (e_Tok2
  (e_Lok (ld_iload_n_1 (x_dk dn_396_1_3_ok 5 rfl)))
  (e_Lok (sm_iadd (x_dk dn_396_1_3_ok 6 rfl))))))))
def te_396_182 : Nat → eE := (e_T 329 (e_T 320 (e_T 312 (e_T 310 (e_L 310 (0, ei_ast elay false 311, 0, 0)) (e_T 311 (e_L 311 (0, ei_load 0 2 312, 0, 0)) (e_L 312 (0, ei_getf eft elay 12 0 315, 0, 0)))) (e_T 315 (e_L 315 (0, ei_load 6 0 317, 0, 0)) (e_T 317 (e_L 317 (2, e_nof, 392, 1)) (e_L 320 (0, ei_push (0, 3) 321, 0, 0))))) (e_T 323 (e_T 321 (e_L 321 (0, ei_bin eF_add 322, 0, 0)) (e_T 322 (e_L 322 (0, ei_push (0, 0) 323, 0, 0)) (e_L 323 (0, ei_ast elay false 324, 0, 0)))) (e_T 325 (e_T 324 (e_L 324 (0, ei_load 0 2 325, 0, 0)) (e_L 325 (0, ei_getf eft elay 12 0 328, 0, 0))) (e_T 328 (e_L 328 (0, ei_load 1 0 329, 0, 0)) (e_L 329 (2, e_nof, 268, 1)))))) (e_T 339 (e_T 334 (e_T 332 (e_L 332 (0, ei_push (0, 1) 333, 0, 0)) (e_T 333 (e_L 333 (0, ei_bin eF_add 334, 0, 0)) (e_L 334 (0, ei_load 6 0 336, 0, 0)))) (e_T 337 (e_T 336 (e_L 336 (0, ei_ast elay false 337, 0, 0)) (e_L 337 (0, ei_load 0 2 338, 0, 0))) (e_T 338 (e_L 338 (0, ei_push (0, (-1)) 339, 0, 0)) (e_L 339 (2, e_nof, 390, 2))))) (e_T 345 (e_T 342 (e_L 342 (0, ei_load 0 2 343, 0, 0)) (e_T 343 (e_L 343 (0, ei_push (0, 6) 345, 0, 0)) (e_L 345 (0, ei_load 1 0 346, 0, 0)))) (e_T 348 (e_T 346 (e_L 346 (0, ei_load 6 0 348, 0, 0)) (e_L 348 (2, e_nof, 319, 4))) (e_T 351 (e_L 351 (0, ei_push (0, 1) 352, 0, 0)) (e_L 352 (1, e_nof, 4, 0)))))))
set_option maxRecDepth 20000 in
set_option maxHeartbeats 4000000 in
theorem te_396_182_ok : ∀ pc, e_EOq eft cls elay eI n_396 pc (te_396_182 pc) :=
  (e_Tok2
  (e_Tok2
  (e_Tok2
  (e_Tok2
  (e_Lok (sm_iastore (x_dk dn_396_1_3_ok 7 rfl)))
  (e_Tok2
  (e_Lok (ld_aload_n_0 (x_dk dn_396_1_3_ok 8 rfl)))
  (e_Lok (lk_12_8g ho_396 (x_dk dn_396_1_3_ok 9 rfl)))))
  (e_Tok2
  (e_Lok (ld_iload_6 (x_dk dn_396_1_3_ok 10 rfl)))
  (e_Tok2
  (e_Lok (lk_12_774 ho_396 (x_dk dn_396_1_3_ok 11 rfl)))
  (e_Lok (ps_iconst_3 (x_dk dn_396_1_3_ok 12 rfl))))))
  (e_Tok2
  (e_Tok2
  (e_Lok (sm_iadd (x_dk dn_396_1_3_ok 13 rfl)))
  (e_Tok2
  (e_Lok (ps_iconst_0 (x_dk dn_396_1_3_ok 14 rfl)))
  (e_Lok (sm_iastore (x_dk dn_396_1_3_ok 15 rfl)))))
  (e_Tok2
  (e_Tok2
  (e_Lok (ld_aload_n_0 (x_dk dn_396_1_3_ok 16 rfl)))
  (e_Lok (lk_12_8g ho_396 (x_dk dn_396_1_3_ok 17 rfl))))
  (e_Tok2
  (e_Lok (ld_iload_n_1 (x_dk dn_396_1_3_ok 18 rfl)))
  (e_Lok (lk_12_294 ho_396 (x_dk dn_396_1_3_ok 19 rfl)))))))
  (e_Tok2
  (e_Tok2
  (e_Tok2
  (e_Lok (ps_iconst_1 (x_dk dn_396_1_3_ok 20 rfl)))
  (e_Tok2
  (e_Lok (sm_iadd (x_dk dn_396_1_3_ok 21 rfl)))
  (e_Lok (ld_iload_6 (x_dk dn_396_1_3_ok 22 rfl)))))
  (e_Tok2
  (e_Tok2
  (e_Lok (sm_iastore (x_dk dn_396_1_3_ok 23 rfl)))
  (e_Lok (ld_aload_n_0 (x_dk dn_396_1_3_ok 24 rfl))))
  (e_Tok2
  (e_Lok (ps_iconst_m1 (x_dk dn_396_2_0_ok 0 rfl)))
  (e_Lok (lk_12_762 ho_396 (x_dk dn_396_2_0_ok 1 rfl))))))
  (e_Tok2
  (e_Tok2
  (e_Lok (ld_aload_n_0 (x_dk dn_396_2_0_ok 2 rfl)))
  (e_Tok2
  (e_Lok (ps_bipush_6 (x_dk dn_396_2_0_ok 3 rfl)))
  (e_Lok (ld_iload_n_1 (x_dk dn_396_2_0_ok 4 rfl)))))
  (e_Tok2
  (e_Tok2
  (e_Lok (ld_iload_6 (x_dk dn_396_2_0_ok 5 rfl)))
  (e_Lok (lk_12_693 ho_396 (x_dk dn_396_2_0_ok 6 rfl))))
  (e_Tok2
  (e_Lok (ps_iconst_1 (x_dk dn_396_2_0_ok 7 rfl)))
  (e_Lok (e_rt (I := eI) (k := 4) ⟨(x_dk dn_396_2_0_ok 8 rfl), rfl⟩)))))))
def te_396 : Nat → eE := (e_T 165 (e_T 75 (e_T 38 te_396_0 te_396_26) (e_T 122 te_396_52 te_396_78)) (e_T 267 (e_T 216 te_396_104 te_396_130) (e_T 309 te_396_156 te_396_182)))
theorem te_396_ok : ∀ pc, e_EOq eft cls elay eI n_396 pc (te_396 pc) := (e_Tok2 ((e_Tok2 ((e_Tok2 (te_396_0_ok) (te_396_26_ok))) ((e_Tok2 (te_396_52_ok) (te_396_78_ok))))) ((e_Tok2 ((e_Tok2 (te_396_104_ok) (te_396_130_ok))) ((e_Tok2 (te_396_156_ok) (te_396_182_ok))))))
end
