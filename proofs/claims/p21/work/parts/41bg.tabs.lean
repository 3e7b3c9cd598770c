noncomputable section
theorem ho_397 : (xm_y n_397).cls = "RobotCellHouseModel" := rfl
def dn_397_0_0 : List (Nat × Instr × Nat) := [(0, .aload_n 0, 1), (1, .getfield 8, 3), (4, .iload_n 1, 1), (5, .invokestatic 294, 3), (8, .iconst 1, 1), (9, .iadd, 1), (10, .iaload, 1), (11, .istore_n 2, 1), (12, .iload_n 2, 1), (13, .ifCond .ge 5, 3), (16, .iconst 0, 1), (17, .ireturn, 1), (18, .aload_n 0, 1), (19, .iload_n 2, 1), (20, .iconst 0, 1), (21, .invokevirtual 777, 3), (24, .istore_n 3, 1), (25, .aload_n 0, 1), (26, .iload_n 2, 1), (27, .iconst 1, 1), (28, .invokevirtual 777, 3), (31, .istore 4, 2), (33, .aload_n 0, 1), (34, .getfield 8, 3), (37, .iload_n 1, 1)]
set_option maxRecDepth 20000 in
theorem dn_397_0_0_ok : dn_397_0_0.all (fun q => decide (decode (xm_b n_397) q.1 = .ok (q.2.1, q.2.2))) = true := xa_g_ok (by decide +kernel)
def dn_397_0_1 : List (Nat × Instr × Nat) := [(38, .invokestatic 294, 3), (41, .iconst 1, 1), (42, .iadd, 1), (43, .iconst (-1), 1), (44, .iastore, 1), (45, .iconst 0, 1), (46, .istore 5, 2), (48, .iconst 0, 1), (49, .istore 6, 2), (51, .iload 6, 2), (53, .aload_n 0, 1), (54, .getfield 276, 3), (57, .if_icmp .ge 156, 3), (60, .iload 5, 2), (62, .ifCond .ne 151, 3), (65, .iload_n 3, 1), (66, .aload_n 0, 1), (67, .getfield 86, 3), (70, .iload 6, 2), (72, .iaload, 1), (73, .isub, 1), (74, .istore 7, 2), (76, .iload 4, 2), (78, .aload_n 0, 1), (79, .getfield 89, 3)]
set_option maxRecDepth 20000 in
theorem dn_397_0_1_ok : dn_397_0_1.all (fun q => decide (decode (xm_b n_397) q.1 = .ok (q.2.1, q.2.2))) = true := xa_g_ok (by decide +kernel)
def dn_397_0_2 : List (Nat × Instr × Nat) := [(82, .iload 6, 2), (84, .iaload, 1), (85, .isub, 1), (86, .istore 8, 2), (88, .aload_n 0, 1), (89, .getfield 92, 3), (92, .iload 6, 2), (94, .iaload, 1), (95, .iconst 2, 1), (96, .irem, 1), (97, .ifCond .ne 8, 3), (100, .iload 7, 2), (102, .goto 5, 3), (105, .iload 8, 2), (107, .istore 9, 2), (109, .aload_n 0, 1), (110, .getfield 92, 3), (113, .iload 6, 2), (115, .iaload, 1), (116, .iconst 2, 1), (117, .irem, 1), (118, .ifCond .ne 8, 3), (121, .iload 8, 2), (123, .goto 5, 3), (126, .iload 7, 2)]
set_option maxRecDepth 20000 in
theorem dn_397_0_2_ok : dn_397_0_2.all (fun q => decide (decode (xm_b n_397) q.1 = .ok (q.2.1, q.2.2))) = true := xa_g_ok (by decide +kernel)
def dn_397_0_3 : List (Nat × Instr × Nat) := [(128, .istore 10, 2), (130, .aload_n 0, 1), (131, .getfield 92, 3), (134, .iload 6, 2), (136, .iaload, 1), (137, .iconst 2, 1), (138, .if_icmp .ge 8, 3), (141, .iload 9, 2), (143, .goto 6, 3), (146, .iload 9, 2), (148, .ineg, 1), (149, .istore 9, 2), (151, .iload 9, 2), (153, .i2l, 1), (154, .lconst 0, 1), (155, .aload_n 0, 1), (156, .getfield 95, 3), (159, .iload 6, 2), (161, .iaload, 1), (162, .i2l, 1), (163, .invokestatic 301, 3), (166, .ifCond .eq 41, 3), (169, .iload 10, 2), (171, .i2l, 1), (172, .aload_n 0, 1)]
set_option maxRecDepth 20000 in
theorem dn_397_0_3_ok : dn_397_0_3.all (fun q => decide (decode (xm_b n_397) q.1 = .ok (q.2.1, q.2.2))) = true := xa_g_ok (by decide +kernel)
def dn_397_1_0 : List (Nat × Instr × Nat) := [(173, .getfield 101, 3), (176, .iload 6, 2), (178, .iaload, 1), (179, .ineg, 1), (180, .i2l, 1), (181, .aload_n 0, 1), (182, .getfield 101, 3), (185, .iload 6, 2), (187, .iaload, 1), (188, .i2l, 1), (189, .invokestatic 301, 3), (192, .ifCond .eq 15, 3), (195, .iconst 1, 1), (196, .istore 5, 2), (198, .aload_n 0, 1), (199, .iload_n 2, 1), (200, .iload 6, 2), (202, .iload 9, 2), (204, .invokevirtual 354, 3), (207, .iinc 6 1, 3), (210, .goto (-159), 3), (213, .iload 5, 2), (215, .ifCond .ne 11, 3), (218, .aload_n 0, 1), (219, .iload_n 2, 1)]
set_option maxRecDepth 20000 in
theorem dn_397_1_0_ok : dn_397_1_0.all (fun q => decide (decode (xm_b n_397) q.1 = .ok (q.2.1, q.2.2))) = true := xa_g_ok (by decide +kernel)
def dn_397_1_1 : List (Nat × Instr × Nat) := [(220, .iload_n 3, 1), (221, .iload 4, 2), (223, .invokevirtual 358, 3), (226, .aload_n 0, 1), (227, .iconst (-1), 1), (228, .invokevirtual 762, 3), (231, .aload_n 0, 1), (232, .bipush 7, 2), (234, .iload_n 1, 1), (235, .iload_n 2, 1), (236, .invokevirtual 693, 3), (239, .iconst 1, 1), (240, .ireturn, 1)]
set_option maxRecDepth 20000 in
theorem dn_397_1_1_ok : dn_397_1_1.all (fun q => decide (decode (xm_b n_397) q.1 = .ok (q.2.1, q.2.2))) = true := xa_g_ok (by decide +kernel)
def te_397_0 : Nat → eE := (e_T 24 (e_T 11 (e_T 5 (e_T 1 (e_T 0 (e_L 0 (0, ei_load 0 2 1, 0, 0)) (e_L 1 (0, ei_getf eft elay 12 0 4, 0, 0))) (e_T 4 (e_L 4 (0, ei_load 1 0 5, 0, 0)) (e_L 5 (2, e_nof, 268, 1)))) (e_T 9 (e_T 8 (e_L 8 (0, ei_push (0, 1) 9, 0, 0)) (e_L 9 (0, ei_bin eF_add 10, 0, 0))) (e_T 10 (e_L 10 (0, ei_ald elay false 11, 0, 0)) (e_L 11 (0, ei_stor 2 0 12, 0, 0))))) (e_T 17 (e_T 13 (e_T 12 (e_L 12 (0, ei_load 2 0 13, 0, 0)) (e_L 13 (0, ei_if1 3 18 16, 0, 0))) (e_T 16 (e_L 16 (0, ei_push (0, 0) 17, 0, 0)) (e_L 17 (1, e_nof, 4, 0)))) (e_T 19 (e_T 18 (e_L 18 (0, ei_load 0 2 19, 0, 0)) (e_L 19 (0, ei_load 2 0 20, 0, 0))) (e_T 20 (e_L 20 (0, ei_push (0, 0) 21, 0, 0)) (e_T 21 (e_L 21 (2, e_nof, 395, 3)) (e_L 24 (0, ei_stor 3 0 25, 0, 0))))))) (e_T 37 (e_T 28 (e_T 26 (e_T 25 (e_L 25 (0, ei_load 0 2 26, 0, 0)) (e_L 26 (0, ei_load 2 0 27, 0, 0))) (e_T 27 (e_L 27 (0, ei_push (0, 1) 28, 0, 0)) (e_L 28 (2, e_nof, 395, 3)))) (e_T 33 (e_T 31 (e_L 31 (0, ei_stor 4 0 33, 0, 0)) (e_L 33 (0, ei_load 0 2 34, 0, 0))) (e_T 34 (e_L 34 (0, ei_getf eft elay 12 0 37, 0, 0)) (e_L 37 (0, ei_load 1 0 38, 0, 0))))) (e_T 43 (e_T 41 (e_T 38 (e_L 38 (2, e_nof, 268, 1)) (e_L 41 (0, ei_push (0, 1) 42, 0, 0))) (e_T 42 (e_L 42 (0, ei_bin eF_add 43, 0, 0)) (e_L 43 (0, ei_push (0, (-1)) 44, 0, 0)))) (e_T 45 (e_T 44 (e_L 44 (0, ei_ast elay false 45, 0, 0)) (e_L 45 (0, ei_push (0, 0) 46, 0, 0))) (e_T 46 (e_L 46 (0, ei_stor 5 0 48, 0, 0)) (e_T 48 (e_L 48 (0, ei_push (0, 0) 49, 0, 0)) (e_L 49 (0, ei_stor 6 0 51, 0, 0))))))))
set_option maxRecDepth 20000 in
set_option maxHeartbeats 4000000 in
theorem te_397_0_ok : ∀ pc, e_EOq eft cls elay eI n_397 pc (te_397_0 pc) :=
  (e_Tok2
  (e_Tok2
  (e_Tok2
  (e_Tok2
  (e_Tok2
  (e_Lok (ld_aload_n_0 (x_dk dn_397_0_0_ok 0 rfl)))
  (e_Lok (lk_12_8g ho_397 (x_dk dn_397_0_0_ok 1 rfl))))
  (e_Tok2
  (e_Lok (ld_iload_n_1 (x_dk dn_397_0_0_ok 2 rfl)))
  (e_Lok (lk_12_294 ho_397 (x_dk dn_397_0_0_ok 3 rfl)))))
  (e_Tok2
  (e_Tok2
  (e_Lok (ps_iconst_1 (x_dk dn_397_0_0_ok 4 rfl)))
  (e_Lok (sm_iadd (x_dk dn_397_0_0_ok 5 rfl))))
  (e_Tok2
  (e_Lok (sm_iaload (x_dk dn_397_0_0_ok 6 rfl)))
  (e_Lok (e_st (I := eI) (er_istore_n (i := 2) (x_dk dn_397_0_0_ok 7 rfl) (by decide +kernel)) nx_stor)))))
  (e_Tok2
  (e_Tok2
  (e_Tok2
  (e_Lok (ld_iload_n_2 (x_dk dn_397_0_0_ok 8 rfl)))
  (e_Lok (e_st (I := eI) (er_ifge (off := 5) (tg := 18) (x_dk dn_397_0_0_ok 9 rfl) (by decide)) nx_if1)))
  (e_Tok2
  (e_Lok (ps_iconst_0 (x_dk dn_397_0_0_ok 10 rfl)))
  (e_Lok (e_rt (I := eI) (k := 4) ⟨(x_dk dn_397_0_0_ok 11 rfl), rfl⟩))))
  (e_Tok2
  (e_Tok2
  (e_Lok (ld_aload_n_0 (x_dk dn_397_0_0_ok 12 rfl)))
  (e_Lok (ld_iload_n_2 (x_dk dn_397_0_0_ok 13 rfl))))
  (e_Tok2
  (e_Lok (ps_iconst_0 (x_dk dn_397_0_0_ok 14 rfl)))
  (e_Tok2
  (e_Lok (lk_12_777 ho_397 (x_dk dn_397_0_0_ok 15 rfl)))
  (e_Lok (e_st (I := eI) (er_istore_n (i := 3) (x_dk dn_397_0_0_ok 16 rfl) (by decide +kernel)) nx_stor)))))))
  (e_Tok2
  (e_Tok2
  (e_Tok2
  (e_Tok2
  (e_Lok (ld_aload_n_0 (x_dk dn_397_0_0_ok 17 rfl)))
  (e_Lok (ld_iload_n_2 (x_dk dn_397_0_0_ok 18 rfl))))
  (e_Tok2
  (e_Lok (ps_iconst_1 (x_dk dn_397_0_0_ok 19 rfl)))
  (e_Lok (lk_12_777 ho_397 (x_dk dn_397_0_0_ok 20 rfl)))))
  (e_Tok2
  (e_Tok2
  (e_Lok (e_st (I := eI) (er_istore (i := 4) (x_dk dn_397_0_0_ok 21 rfl) (by decide +kernel)) nx_stor))
  (e_Lok (ld_aload_n_0 (x_dk dn_397_0_0_ok 22 rfl))))
  (e_Tok2
  (e_Lok (lk_12_8g ho_397 (x_dk dn_397_0_0_ok 23 rfl)))
  (e_Lok (ld_iload_n_1 (x_dk dn_397_0_0_ok 24 rfl))))))
  (e_Tok2
  (e_Tok2
  (e_Tok2
  (e_Lok (lk_12_294 ho_397 (x_dk dn_397_0_1_ok 0 rfl)))
  (e_Lok (ps_iconst_1 (x_dk dn_397_0_1_ok 1 rfl))))
  (e_Tok2
  (e_Lok (sm_iadd (x_dk dn_397_0_1_ok 2 rfl)))
  (e_Lok (ps_iconst_m1 (x_dk dn_397_0_1_ok 3 rfl)))))
  (e_Tok2
  (e_Tok2
  (e_Lok (sm_iastore (x_dk dn_397_0_1_ok 4 rfl)))
  (e_Lok (ps_iconst_0 (x_dk dn_397_0_1_ok 5 rfl))))
  (e_Tok2
  (e_Lok (e_st (I := eI) (er_istore (i := 5) (x_dk dn_397_0_1_ok 6 rfl) (by decide +kernel)) nx_stor))
  (e_Tok2
  (e_Lok (ps_iconst_0 (x_dk dn_397_0_1_ok 7 rfl)))
  (e_Lok (e_st (I := eI) (er_istore (i := 6) (x_dk dn_397_0_1_ok 8 rfl) (by decide +kernel)) nx_stor))))))))
def te_397_34 : Nat → eE := (e_T 82 (e_T 66 (e_T 57 (e_T 53 (e_T 51 (e_L 51 (0, ei_load 6 0 53, 0, 0)) (e_L 53 (0, ei_load 0 2 54, 0, 0))) (e_T 54 (e_L 54 (0, ei_getf eft elay 12 30 57, 0, 0)) (e_L 57 (0, ei_if2 3 213 60, 0, 0)))) (e_T 62 (e_T 60 (e_L 60 (0, ei_load 5 0 62, 0, 0)) (e_L 62 (0, ei_if1 1 213 65, 0, 0))) (e_T 65 (e_L 65 (0, ei_load 3 0 66, 0, 0)) (e_L 66 (0, ei_load 0 2 67, 0, 0))))) (e_T 73 (e_T 70 (e_T 67 (e_L 67 (0, ei_getf eft elay 12 31 70, 0, 0)) (e_L 70 (0, ei_load 6 0 72, 0, 0))) (e_T 72 (e_L 72 (0, ei_ald elay false 73, 0, 0)) (e_L 73 (0, ei_bin eF_sub 74, 0, 0)))) (e_T 76 (e_T 74 (e_L 74 (0, ei_stor 7 0 76, 0, 0)) (e_L 76 (0, ei_load 4 0 78, 0, 0))) (e_T 78 (e_L 78 (0, ei_load 0 2 79, 0, 0)) (e_T 79 (e_L 79 (0, ei_getf eft elay 12 32 82, 0, 0)) (e_L 82 (0, ei_load 6 0 84, 0, 0))))))) (e_T 96 (e_T 88 (e_T 85 (e_T 84 (e_L 84 (0, ei_ald elay false 85, 0, 0)) (e_L 85 (0, ei_bin eF_sub 86, 0, 0))) (e_T 86 (e_L 86 (0, ei_stor 8 0 88, 0, 0)) (e_L 88 (0, ei_load 0 2 89, 0, 0)))) (e_T 92 (e_T 89 (e_L 89 (0, ei_getf eft elay 12 33 92, 0, 0)) (e_L 92 (0, ei_load 6 0 94, 0, 0))) (e_T 94 (e_L 94 (0, ei_ald elay false 95, 0, 0)) (e_T 95 (e_L 95 (0, ei_push (0, 2) 96, 0, 0)) (e_L 96 (0, ei_bin eF_rem 97, 0, 0)))))) (e_T 105 (e_T 100 (e_T 97 (e_L 97 (0, ei_if1 1 105 100, 0, 0)) (e_L 100 (0, ei_load 7 0 102, 0, 0))) (e_T 102 (e_L 102 (0, ei_goto 107, 0, 0)) (e_L 105 (0, ei_load 8 0 107, 0, 0)))) (e_T 109 (e_T 107 (e_L 107 (0, ei_stor 9 0 109, 0, 0)) (e_L 109 (0, ei_load 0 2 110, 0, 0))) (e_T 110 (e_L 110 (0, ei_getf eft elay 12 33 113, 0, 0)) (e_T 113 (e_L 113 (0, ei_load 6 0 115, 0, 0)) (e_L 115 (0, ei_ald elay false 116, 0, 0))))))))
set_option maxRecDepth 20000 in
set_option maxHeartbeats 4000000 in
theorem te_397_34_ok : ∀ pc, e_EOq eft cls elay eI n_397 pc (te_397_34 pc) :=
  (e_Tok2
  (e_Tok2
  (e_Tok2
  (e_Tok2
  (e_Tok2
  (e_Lok (ld_iload_6 (x_dk dn_397_0_1_ok 9 rfl)))
  (e_Lok (ld_aload_n_0 (x_dk dn_397_0_1_ok 10 rfl))))
  (e_Tok2
  (e_Lok (lk_12_276g ho_397 (x_dk dn_397_0_1_ok 11 rfl)))
  (e_Lok (e_st (I := eI) (er_icmpge (off := 156) (tg := 213) (x_dk dn_397_0_1_ok 12 rfl) (by decide)) nx_if2))))
  (e_Tok2
  (e_Tok2
  (e_Lok (ld_iload_5 (x_dk dn_397_0_1_ok 13 rfl)))
  (e_Lok (e_st (I := eI) (er_ifne (off := 151) (tg := 213) (x_dk dn_397_0_1_ok 14 rfl) (by decide)) nx_if1)))
  (e_Tok2
  (e_Lok (ld_iload_n_3 (x_dk dn_397_0_1_ok 15 rfl)))
  (e_Lok (ld_aload_n_0 (x_dk dn_397_0_1_ok 16 rfl))))))
  (e_Tok2
  (e_Tok2
  (e_Tok2
  (e_Lok (lk_12_86g ho_397 (x_dk dn_397_0_1_ok 17 rfl)))
  (e_Lok (ld_iload_6 (x_dk dn_397_0_1_ok 18 rfl))))
  (e_Tok2
  (e_Lok (sm_iaload (x_dk dn_397_0_1_ok 19 rfl)))
  (e_Lok (sm_isub (x_dk dn_397_0_1_ok 20 rfl)))))
  (e_Tok2
  (e_Tok2
  (e_Lok (e_st (I := eI) (er_istore (i := 7) (x_dk dn_397_0_1_ok 21 rfl) (by decide +kernel)) nx_stor))
  (e_Lok (ld_iload_4 (x_dk dn_397_0_1_ok 22 rfl))))
  (e_Tok2
  (e_Lok (ld_aload_n_0 (x_dk dn_397_0_1_ok 23 rfl)))
  (e_Tok2
  (e_Lok (lk_12_89g ho_397 (x_dk dn_397_0_1_ok 24 rfl)))
  (e_Lok (ld_iload_6 (x_dk dn_397_0_2_ok 0 rfl))))))))
  (e_Tok2
  (e_Tok2
  (e_Tok2
  (e_Tok2
  (e_Lok (sm_iaload (x_dk dn_397_0_2_ok 1 rfl)))
  (e_Lok (sm_isub (x_dk dn_397_0_2_ok 2 rfl))))
  (e_Tok2
  (e_Lok (e_st (I := eI) (er_istore (i := 8) (x_dk dn_397_0_2_ok 3 rfl) (by decide +kernel)) nx_stor))
  (e_Lok (ld_aload_n_0 (x_dk dn_397_0_2_ok 4 rfl)))))
  (e_Tok2
  (e_Tok2
  (e_Lok (lk_12_92g ho_397 (x_dk dn_397_0_2_ok 5 rfl)))
  (e_Lok (ld_iload_6 (x_dk dn_397_0_2_ok 6 rfl))))
  (e_Tok2
  (e_Lok (sm_iaload (x_dk dn_397_0_2_ok 7 rfl)))
  (e_Tok2
  (e_Lok (ps_iconst_2 (x_dk dn_397_0_2_ok 8 rfl)))
  (e_Lok (e_st (I := eI) (er_irem (x_dk dn_397_0_2_ok 9 rfl)) nx_bin))))))
  (e_Tok2
  (e_Tok2
  (e_Tok2
  (e_Lok (e_st (I := eI) (er_ifne (off := 8) (tg := 105) (x_dk dn_397_0_2_ok 10 rfl) (by decide)) nx_if1))
  (e_Lok (ld_iload_7 (x_dk dn_397_0_2_ok 11 rfl))))
  (e_Tok2
  (e_Lok (e_st (I := eI) (er_goto (off := 5) (tg := 107) (x_dk dn_397_0_2_ok 12 rfl) (by decide)) nx_goto))
  (e_Lok (ld_iload_8 (x_dk dn_397_0_2_ok 13 rfl)))))
  (e_Tok2
  (e_Tok2
  (e_Lok (e_st (I := eI) (er_istore (i := 9) (x_dk dn_397_0_2_ok 14 rfl) (by decide +kernel)) nx_stor))
  (e_Lok (ld_aload_n_0 (x_dk dn_397_0_2_ok 15 rfl))))
  (e_Tok2
  (e_Lok (lk_12_92g ho_397 (x_dk dn_397_0_2_ok 16 rfl)))
  (e_Tok2
  (e_Lok (ld_iload_6 (x_dk dn_397_0_2_ok 17 rfl)))
  (e_Lok (sm_iaload (x_dk dn_397_0_2_ok 18 rfl)))))))))
def te_397_69 : Nat → eE := (e_T 148 (e_T 130 (e_T 121 (e_T 117 (e_T 116 (e_L 116 (0, ei_push (0, 2) 117, 0, 0)) (e_L 117 (0, ei_bin eF_rem 118, 0, 0))) (e_T 118 (e_L 118 (0, ei_if1 1 126 121, 0, 0)) (e_L 121 (0, ei_load 8 0 123, 0, 0)))) (e_T 126 (e_T 123 (e_L 123 (0, ei_goto 128, 0, 0)) (e_L 126 (0, ei_load 7 0 128, 0, 0))) (e_T 128 (e_L 128 (0, ei_stor 10 0 130, 0, 0)) (e_L 130 (0, ei_load 0 2 131, 0, 0))))) (e_T 137 (e_T 134 (e_T 131 (e_L 131 (0, ei_getf eft elay 12 33 134, 0, 0)) (e_L 134 (0, ei_load 6 0 136, 0, 0))) (e_T 136 (e_L 136 (0, ei_ald elay false 137, 0, 0)) (e_L 137 (0, ei_push (0, 2) 138, 0, 0)))) (e_T 141 (e_T 138 (e_L 138 (0, ei_if2 3 146 141, 0, 0)) (e_L 141 (0, ei_load 9 0 143, 0, 0))) (e_T 143 (e_L 143 (0, ei_goto 149, 0, 0)) (e_T 146 (e_L 146 (0, ei_load 9 0 148, 0, 0)) (e_L 148 (0, ei_un (fun x => (0, e32 (-x))) 149, 0, 0))))))) (e_T 161 (e_T 154 (e_T 151 (e_T 149 (e_L 149 (0, ei_stor 9 0 151, 0, 0)) (e_L 151 (0, ei_load 9 0 153, 0, 0))) (e_T 153 (e_L 153 (0, ei_un (fun x => (4, x)) 154, 0, 0)) (e_L 154 (0, ei_push (4, 0) 155, 0, 0)))) (e_T 156 (e_T 155 (e_L 155 (0, ei_load 0 2 156, 0, 0)) (e_L 156 (0, ei_getf eft elay 12 34 159, 0, 0))) (e_T 159 (e_L 159 (0, ei_load 6 0 161, 0, 0)) (e_L 161 (0, ei_ald elay false 162, 0, 0))))) (e_T 169 (e_T 163 (e_T 162 (e_L 162 (0, ei_un (fun x => (4, x)) 163, 0, 0)) (e_L 163 (2, e_nof, 266, 3))) (e_T 166 (e_L 166 (0, ei_if1 0 207 169, 0, 0)) (e_L 169 (0, ei_load 10 0 171, 0, 0)))) (e_T 172 (e_T 171 (e_L 171 (0, ei_un (fun x => (4, x)) 172, 0, 0)) (e_L 172 (0, ei_load 0 2 173, 0, 0))) (e_T 173 (e_L 173 (0, ei_getf eft elay 12 36 176, 0, 0)) (e_T 176 (e_L 176 (0, ei_load 6 0 178, 0, 0)) (e_L 178 (0, ei_ald elay false 179, 0, 0))))))))
set_option maxRecDepth 20000 in
set_option maxHeartbeats 4000000 in
theorem te_397_69_ok : ∀ pc, e_EOq eft cls elay eI n_397 pc (te_397_69 pc) :=
  (e_Tok2
  (e_Tok2
  (e_Tok2
  (e_Tok2
  (e_Tok2
  (e_Lok (ps_iconst_2 (x_dk dn_397_0_2_ok 19 rfl)))
  (e_Lok (e_st (I := eI) (er_irem (x_dk dn_397_0_2_ok 20 rfl)) nx_bin)))
  (e_Tok2
  (e_Lok (e_st (I := eI) (er_ifne (off := 8) (tg := 126) (x_dk dn_397_0_2_ok 21 rfl) (by decide)) nx_if1))
  (e_Lok (ld_iload_8 (x_dk dn_397_0_2_ok 22 rfl)))))
  (e_Tok2
  (e_Tok2
  (e_Lok (e_st (I := eI) (er_goto (off := 5) (tg := 128) (x_dk dn_397_0_2_ok 23 rfl) (by decide)) nx_goto))
  (e_Lok (ld_iload_7 (x_dk dn_397_0_2_ok 24 rfl))))
  (e_Tok2
  (e_Lok (e_st (I := eI) (er_istore (i := 10) (x_dk dn_397_0_3_ok 0 rfl) (by decide +kernel)) nx_stor))
  (e_Lok (ld_aload_n_0 (x_dk dn_397_0_3_ok 1 rfl))))))
  (e_Tok2
  (e_Tok2
  (e_Tok2
  (e_Lok (lk_12_92g ho_397 (x_dk dn_397_0_3_ok 2 rfl)))
  (e_Lok (ld_iload_6 (x_dk dn_397_0_3_ok 3 rfl))))
  (e_Tok2
  (e_Lok (sm_iaload (x_dk dn_397_0_3_ok 4 rfl)))
  (e_Lok (ps_iconst_2 (x_dk dn_397_0_3_ok 5 rfl)))))
  (e_Tok2
  (e_Tok2
  (e_Lok (e_st (I := eI) (er_icmpge (off := 8) (tg := 146) (x_dk dn_397_0_3_ok 6 rfl) (by decide)) nx_if2))
  (e_Lok (ld_iload_9 (x_dk dn_397_0_3_ok 7 rfl))))
  (e_Tok2
  (e_Lok (e_st (I := eI) (er_goto (off := 6) (tg := 149) (x_dk dn_397_0_3_ok 8 rfl) (by decide)) nx_goto))
  (e_Tok2
  (e_Lok (ld_iload_9 (x_dk dn_397_0_3_ok 9 rfl)))
  (e_Lok (e_st (I := eI) (er_ineg (x_dk dn_397_0_3_ok 10 rfl)) (nx_un (fun _ => rfl)))))))))
  (e_Tok2
  (e_Tok2
  (e_Tok2
  (e_Tok2
  (e_Lok (e_st (I := eI) (er_istore (i := 9) (x_dk dn_397_0_3_ok 11 rfl) (by decide +kernel)) nx_stor))
  (e_Lok (ld_iload_9 (x_dk dn_397_0_3_ok 12 rfl))))
  (e_Tok2
  (e_Lok (e_st (I := eI) (er_i2l (x_dk dn_397_0_3_ok 13 rfl)) (nx_un (fun _ => rfl))))
  (e_Lok (ps_lconst_0 (x_dk dn_397_0_3_ok 14 rfl)))))
  (e_Tok2
  (e_Tok2
  (e_Lok (ld_aload_n_0 (x_dk dn_397_0_3_ok 15 rfl)))
  (e_Lok (lk_12_95g ho_397 (x_dk dn_397_0_3_ok 16 rfl))))
  (e_Tok2
  (e_Lok (ld_iload_6 (x_dk dn_397_0_3_ok 17 rfl)))
  (e_Lok (sm_iaload (x_dk dn_397_0_3_ok 18 rfl))))))
  (e_Tok2
  (e_Tok2
  (e_Tok2
  (e_Lok (e_st (I := eI) (er_i2l (x_dk dn_397_0_3_ok 19 rfl)) (nx_un (fun _ => rfl))))
  (e_Lok (lk_12_301 ho_397 (x_dk dn_397_0_3_ok 20 rfl))))
  (e_Tok2
  (e_Lok (e_st (I := eI) (er_ifeq (off := 41) (tg := 207) (x_dk dn_397_0_3_ok 21 rfl) (by decide)) nx_if1))
  (e_Lok (ld_iload_10 (x_dk dn_397_0_3_ok 22 rfl)))))
  (e_Tok2
  (e_Tok2
  (e_Lok (e_st (I := eI) (er_i2l (x_dk dn_397_0_3_ok 23 rfl)) (nx_un (fun _ => rfl))))
  (e_Lok (ld_aload_n_0 (x_dk dn_397_0_3_ok 24 rfl))))
  (e_Tok2
  (e_Lok (lk_12_101g ho_397 (x_dk dn_397_1_0_ok 0 rfl)))
  (e_Tok2
  (e_Lok (ld_iload_6 (x_dk dn_397_1_0_ok 1 rfl)))
  (e_Lok (sm_iaload (x_dk dn_397_1_0_ok 2 rfl)))))))))
def te_397_103 : Nat → eE := (e_T 207 (e_T 189 (e_T 182 (e_T 180 (e_T 179 (e_L 179 (0, ei_un (fun x => (0, e32 (-x))) 180, 0, 0)) (e_L 180 (0, ei_un (fun x => (4, x)) 181, 0, 0))) (e_T 181 (e_L 181 (0, ei_load 0 2 182, 0, 0)) (e_L 182 (0, ei_getf eft elay 12 36 185, 0, 0)))) (e_T 187 (e_T 185 (e_L 185 (0, ei_load 6 0 187, 0, 0)) (e_L 187 (0, ei_ald elay false 188, 0, 0))) (e_T 188 (e_L 188 (0, ei_un (fun x => (4, x)) 189, 0, 0)) (e_L 189 (2, e_nof, 266, 3))))) (e_T 198 (e_T 195 (e_T 192 (e_L 192 (0, ei_if1 0 207 195, 0, 0)) (e_L 195 (0, ei_push (0, 1) 196, 0, 0))) (e_T 196 (e_L 196 (0, ei_stor 5 0 198, 0, 0)) (e_L 198 (0, ei_load 0 2 199, 0, 0)))) (e_T 200 (e_T 199 (e_L 199 (0, ei_load 2 0 200, 0, 0)) (e_L 200 (0, ei_load 6 0 202, 0, 0))) (e_T 202 (e_L 202 (0, ei_load 9 0 204, 0, 0)) (e_T 204 (e_L 204 (2, e_nof, 393, 4)) (e_L 207 (0, ei_inc 6 1 210, 0, 0))))))) (e_T 226 (e_T 218 (e_T 213 (e_T 210 (e_L 210 (0, ei_goto 51, 0, 0)) (e_L 213 (0, ei_load 5 0 215, 0, 0))) (e_T 215 (e_L 215 (0, ei_if1 1 226 218, 0, 0)) (e_L 218 (0, ei_load 0 2 219, 0, 0)))) (e_T 220 (e_T 219 (e_L 219 (0, ei_load 2 0 220, 0, 0)) (e_L 220 (0, ei_load 3 0 221, 0, 0))) (e_T 221 (e_L 221 (0, ei_load 4 0 223, 0, 0)) (e_T 223 (e_L 223 (2, e_nof, 394, 4)) (e_L 226 (0, ei_load 0 2 227, 0, 0)))))) (e_T 232 (e_T 228 (e_T 227 (e_L 227 (0, ei_push (0, (-1)) 228, 0, 0)) (e_L 228 (2, e_nof, 390, 2))) (e_T 231 (e_L 231 (0, ei_load 0 2 232, 0, 0)) (e_L 232 (0, ei_push (0, 7) 234, 0, 0)))) (e_T 235 (e_T 234 (e_L 234 (0, ei_load 1 0 235, 0, 0)) (e_L 235 (0, ei_load 2 0 236, 0, 0))) (e_T 236 (e_L 236 (2, e_nof, 319, 4)) (e_T 239 (e_L 239 (0, ei_push (0, 1) 240, 0, 0)) (e_L 240 (1, e_nof, 4, 0))))))))
set_option maxRecDepth 20000 in
set_option maxHeartbeats 4000000 in
theorem te_397_103_ok : ∀ pc, e_EOq eft cls elay eI n_397 pc (te_397_103 pc) :=
  (e_Tok2
  (e_Tok2
  (e_Tok2
  (e_Tok2
  (e_Tok2
  (e_Lok (e_st (I := eI) (er_ineg (x_dk dn_397_1_0_ok 3 rfl)) (nx_un (fun _ => rfl))))
  (e_Lok (e_st (I := eI) (er_i2l (x_dk dn_397_1_0_ok 4 rfl)) (nx_un (fun _ => rfl)))))
  (e_Tok2
  (e_Lok (ld_aload_n_0 (x_dk dn_397_1_0_ok 5 rfl)))
  (e_Lok (lk_12_101g ho_397 (x_dk dn_397_1_0_ok 6 rfl)))))
  (e_Tok2
  (e_Tok2
  (e_Lok (ld_iload_6 (x_dk dn_397_1_0_ok 7 rfl)))
  (e_Lok (sm_iaload (x_dk dn_397_1_0_ok 8 rfl))))
  (e_Tok2
  (e_Lok (e_st (I := eI) (er_i2l (x_dk dn_397_1_0_ok 9 rfl)) (nx_un (fun _ => rfl))))
  (e_Lok (lk_12_301 ho_397 (x_dk dn_397_1_0_ok 10 rfl))))))
  (e_Tok2
  (e_Tok2
  (e_Tok2
  (e_Lok (e_st (I := eI) (er_ifeq (off := 15) (tg := 207) (x_dk dn_397_1_0_ok 11 rfl) (by decide)) nx_if1))
  (e_Lok (ps_iconst_1 (x_dk dn_397_1_0_ok 12 rfl))))
  (e_Tok2
  (e_Lok (e_st (I := eI) (er_istore (i := 5) (x_dk dn_397_1_0_ok 13 rfl) (by decide +kernel)) nx_stor))
  (e_Lok (ld_aload_n_0 (x_dk dn_397_1_0_ok 14 rfl)))))
  (e_Tok2
  (e_Tok2
  (e_Lok (ld_iload_n_2 (x_dk dn_397_1_0_ok 15 rfl)))
  (e_Lok (ld_iload_6 (x_dk dn_397_1_0_ok 16 rfl))))
  (e_Tok2
  (e_Lok (ld_iload_9 (x_dk dn_397_1_0_ok 17 rfl)))
  (e_Tok2
  (e_Lok (lk_12_354 ho_397 (x_dk dn_397_1_0_ok 18 rfl)))
  (e_Lok (e_st (I := eI) (er_iinc (i := 6) (n := 1) (x_dk dn_397_1_0_ok 19 rfl) (by decide +kernel) (by decide)) nx_inc)))))))
  (e_Tok2
  (e_Tok2
  (e_Tok2
  (e_Tok2
  (e_Lok (e_st (I := eI) (er_goto (off := (-159)) (tg := 51) (x_dk dn_397_1_0_ok 20 rfl) (by decide)) nx_goto))
  (e_Lok (ld_iload_5 (x_dk dn_397_1_0_ok 21 rfl))))
  (e_Tok2
  (e_Lok (e_st (I := eI) (er_ifne (off := 11) (tg := 226) (x_dk dn_397_1_0_ok 22 rfl) (by decide)) nx_if1))
  (e_Lok (ld_aload_n_0 (x_dk dn_397_1_0_ok 23 rfl)))))
  (e_Tok2
  (e_Tok2
  (e_Lok (ld_iload_n_2 (x_dk dn_397_1_0_ok 24 rfl)))
  (e_Lok (ld_iload_n_3 (x_dk dn_397_1_1_ok 0 rfl))))
  (e_Tok2
  (e_Lok (ld_iload_4 (x_dk dn_397_1_1_ok 1 rfl)))
  (e_Tok2
  (e_Lok (lk_12_358 ho_397 (x_dk dn_397_1_1_ok 2 rfl)))
  (e_Lok (ld_aload_n_0 (x_dk dn_397_1_1_ok 3 rfl)))))))
  (e_Tok2
  (e_Tok2
  (e_Tok2
  (e_Lok (ps_iconst_m1 (x_dk dn_397_1_1_ok 4 rfl)))
  (e_Lok (lk_12_762 ho_397 (x_dk dn_397_1_1_ok 5 rfl))))
  (e_Tok2
  (e_Lok (ld_aload_n_0 (x_dk dn_397_1_1_ok 6 rfl)))
  (e_Lok (ps_bipush_7 (x_dk dn_397_1_1_ok 7 rfl)))))
  (e_Tok2
  (e_Tok2
  (e_Lok (ld_iload_n_1 (x_dk dn_397_1_1_ok 8 rfl)))
  (e_Lok (ld_iload_n_2 (x_dk dn_397_1_1_ok 9 rfl))))
  (e_Tok2
  (e_Lok (lk_12_693 ho_397 (x_dk dn_397_1_1_ok 10 rfl)))
  (e_Tok2
  (e_Lok (ps_iconst_1 (x_dk dn_397_1_1_ok 11 rfl)))
  (e_Lok (e_rt (I := eI) (k := 4) ⟨(x_dk dn_397_1_1_ok 12 rfl), rfl⟩))))))))
def te_397 : Nat → eE := (e_T 115 (e_T 49 te_397_0 te_397_34) (e_T 178 te_397_69 te_397_103))
theorem te_397_ok : ∀ pc, e_EOq eft cls elay eI n_397 pc (te_397 pc) := (e_Tok2 ((e_Tok2 (te_397_0_ok) (te_397_34_ok))) ((e_Tok2 (te_397_69_ok) (te_397_103_ok))))
theorem ho_398 : (xm_y n_398).cls = "RobotCellHouseModel" := rfl
def dn_398_0_0 : List (Nat × Instr × Nat) := [(0, .sipush 20704, 3), (3, .bipush 33, 2), (5, .iload_n 1, 1), (6, .imul, 1), (7, .iadd, 1), (8, .istore_n 2, 1), (9, .iconst 0, 1), (10, .istore_n 3, 1), (11, .iconst 1, 1), (12, .istore 4, 2), (14, .iload 4, 2), (16, .aload_n 0, 1), (17, .getfield 8, 3), (20, .iload_n 2, 1), (21, .iaload, 1), (22, .if_icmp .gt 190, 3), (25, .aload_n 0, 1), (26, .getfield 8, 3), (29, .iload_n 2, 1), (30, .iload 4, 2), (32, .iadd, 1), (33, .iaload, 1), (34, .istore 5, 2), (36, .aload_n 0, 1), (37, .getfield 8, 3)]
set_option maxRecDepth 20000 in
theorem dn_398_0_0_ok : dn_398_0_0.all (fun q => decide (decode (xm_b n_398) q.1 = .ok (q.2.1, q.2.2))) = true := xa_g_ok (by decide +kernel)
def dn_398_0_1 : List (Nat × Instr × Nat) := [(40, .iload 5, 2), (42, .invokestatic 774, 3), (45, .iconst 3, 1), (46, .iadd, 1), (47, .iaload, 1), (48, .istore 6, 2), (50, .iload 6, 2), (52, .aload_n 0, 1), (53, .getfield 98, 3), (56, .iload_n 1, 1), (57, .iaload, 1), (58, .iadd, 1), (59, .aload_n 0, 1), (60, .getfield 95, 3), (63, .iload_n 1, 1), (64, .iaload, 1), (65, .if_icmp .ge 15, 3), (68, .iload 6, 2), (70, .aload_n 0, 1), (71, .getfield 98, 3), (74, .iload_n 1, 1), (75, .iaload, 1), (76, .iadd, 1), (77, .goto 9, 3), (80, .aload_n 0, 1)]
set_option maxRecDepth 20000 in
theorem dn_398_0_1_ok : dn_398_0_1.all (fun q => decide (decode (xm_b n_398) q.1 = .ok (q.2.1, q.2.2))) = true := xa_g_ok (by decide +kernel)
def dn_398_0_2 : List (Nat × Instr × Nat) := [(81, .getfield 95, 3), (84, .iload_n 1, 1), (85, .iaload, 1), (86, .istore 7, 2), (88, .iload 4, 2), (90, .iconst 1, 1), (91, .if_icmp .le 62, 3), (94, .aload_n 0, 1), (95, .getfield 8, 3), (98, .iload_n 2, 1), (99, .iload 4, 2), (101, .iadd, 1), (102, .iconst 1, 1), (103, .isub, 1), (104, .iaload, 1), (105, .istore 8, 2), (107, .aload_n 0, 1), (108, .getfield 8, 3), (111, .iload 8, 2), (113, .invokestatic 774, 3), (116, .iconst 3, 1), (117, .iadd, 1), (118, .iaload, 1), (119, .aload_n 0, 1), (120, .getfield 113, 3)]
set_option maxRecDepth 20000 in
theorem dn_398_0_2_ok : dn_398_0_2.all (fun q => decide (decode (xm_b n_398) q.1 = .ok (q.2.1, q.2.2))) = true := xa_g_ok (by decide +kernel)
def dn_398_0_3 : List (Nat × Instr × Nat) := [(123, .iload 8, 2), (125, .iaload, 1), (126, .isub, 1), (127, .aload_n 0, 1), (128, .getfield 113, 3), (131, .iload 5, 2), (133, .iaload, 1), (134, .isub, 1), (135, .istore 9, 2), (137, .iload 9, 2), (139, .iload 7, 2), (141, .if_icmp .ge 8, 3), (144, .iload 9, 2), (146, .goto 5, 3), (149, .iload 7, 2), (151, .istore 7, 2), (153, .iload 7, 2), (155, .iload 6, 2), (157, .if_icmp .le 8, 3), (160, .iload 7, 2), (162, .goto 5, 3), (165, .iload 6, 2), (167, .istore 6, 2), (169, .aload_n 0, 1), (170, .getfield 8, 3)]
set_option maxRecDepth 20000 in
theorem dn_398_0_3_ok : dn_398_0_3.all (fun q => decide (decode (xm_b n_398) q.1 = .ok (q.2.1, q.2.2))) = true := xa_g_ok (by decide +kernel)
def dn_398_1_0 : List (Nat × Instr × Nat) := [(173, .iload 5, 2), (175, .invokestatic 774, 3), (178, .iconst 3, 1), (179, .iadd, 1), (180, .iload 6, 2), (182, .iastore, 1), (183, .iload_n 3, 1), (184, .iload 6, 2), (186, .i2l, 1), (187, .aload_n 0, 1), (188, .getfield 107, 3), (191, .iload_n 1, 1), (192, .iaload, 1), (193, .i2l, 1), (194, .aload_n 0, 1), (195, .getfield 110, 3), (198, .iload_n 1, 1), (199, .iaload, 1), (200, .i2l, 1), (201, .invokestatic 301, 3), (204, .ior, 1), (205, .istore_n 3, 1), (206, .iinc 4 1, 3), (209, .goto (-195), 3), (212, .aload_n 0, 1)]
set_option maxRecDepth 20000 in
theorem dn_398_1_0_ok : dn_398_1_0.all (fun q => decide (decode (xm_b n_398) q.1 = .ok (q.2.1, q.2.2))) = true := xa_g_ok (by decide +kernel)
def dn_398_1_1 : List (Nat × Instr × Nat) := [(213, .getfield 104, 3), (216, .iload_n 1, 1), (217, .iaload, 1), (218, .ifCond .lt 22, 3), (221, .aload_n 0, 1), (222, .aload_n 0, 1), (223, .getfield 104, 3), (226, .iload_n 1, 1), (227, .iaload, 1), (228, .iload_n 3, 1), (229, .ifCond .eq 7, 3), (232, .iconst 1, 1), (233, .goto 4, 3), (236, .iconst 0, 1), (237, .invokevirtual 729, 3), (240, .return_, 1)]
set_option maxRecDepth 20000 in
theorem dn_398_1_1_ok : dn_398_1_1.all (fun q => decide (decode (xm_b n_398) q.1 = .ok (q.2.1, q.2.2))) = true := xa_g_ok (by decide +kernel)
def te_398_0 : Nat → eE := (e_T 25 (e_T 10 (e_T 6 (e_T 3 (e_T 0 (e_L 0 (0, ei_push (0, 20704) 3, 0, 0)) (e_L 3 (0, ei_push (0, 33) 5, 0, 0))) (e_T 5 (e_L 5 (0, ei_load 1 0 6, 0, 0)) (e_L 6 (0, ei_bin eF_mul 7, 0, 0)))) (e_T 8 (e_T 7 (e_L 7 (0, ei_bin eF_add 8, 0, 0)) (e_L 8 (0, ei_stor 2 0 9, 0, 0))) (e_T 9 (e_L 9 (0, ei_push (0, 0) 10, 0, 0)) (e_L 10 (0, ei_stor 3 0 11, 0, 0))))) (e_T 16 (e_T 12 (e_T 11 (e_L 11 (0, ei_push (0, 1) 12, 0, 0)) (e_L 12 (0, ei_stor 4 0 14, 0, 0))) (e_T 14 (e_L 14 (0, ei_load 4 0 16, 0, 0)) (e_L 16 (0, ei_load 0 2 17, 0, 0)))) (e_T 20 (e_T 17 (e_L 17 (0, ei_getf eft elay 12 0 20, 0, 0)) (e_L 20 (0, ei_load 2 0 21, 0, 0))) (e_T 21 (e_L 21 (0, ei_ald elay false 22, 0, 0)) (e_T 22 (e_L 22 (0, ei_if2 4 212 25, 0, 0)) (e_L 25 (0, ei_load 0 2 26, 0, 0))))))) (e_T 40 (e_T 32 (e_T 29 (e_T 26 (e_L 26 (0, ei_getf eft elay 12 0 29, 0, 0)) (e_L 29 (0, ei_load 2 0 30, 0, 0))) (e_T 30 (e_L 30 (0, ei_load 4 0 32, 0, 0)) (e_L 32 (0, ei_bin eF_add 33, 0, 0)))) (e_T 34 (e_T 33 (e_L 33 (0, ei_ald elay false 34, 0, 0)) (e_L 34 (0, ei_stor 5 0 36, 0, 0))) (e_T 36 (e_L 36 (0, ei_load 0 2 37, 0, 0)) (e_T 37 (e_L 37 (0, ei_getf eft elay 12 0 40, 0, 0)) (e_L 40 (0, ei_load 5 0 42, 0, 0)))))) (e_T 47 (e_T 45 (e_T 42 (e_L 42 (2, e_nof, 392, 1)) (e_L 45 (0, ei_push (0, 3) 46, 0, 0))) (e_T 46 (e_L 46 (0, ei_bin eF_add 47, 0, 0)) (e_L 47 (0, ei_ald elay false 48, 0, 0)))) (e_T 50 (e_T 48 (e_L 48 (0, ei_stor 6 0 50, 0, 0)) (e_L 50 (0, ei_load 6 0 52, 0, 0))) (e_T 52 (e_L 52 (0, ei_load 0 2 53, 0, 0)) (e_T 53 (e_L 53 (0, ei_getf eft elay 12 35 56, 0, 0)) (e_L 56 (0, ei_load 1 0 57, 0, 0))))))))
set_option maxRecDepth 20000 in
set_option maxHeartbeats 4000000 in
theorem te_398_0_ok : ∀ pc, e_EOq eft cls elay eI n_398 pc (te_398_0 pc) :=
  (e_Tok2
  (e_Tok2
  (e_Tok2
  (e_Tok2
  (e_Tok2
  (e_Lok (ps_sipush_20704 (x_dk dn_398_0_0_ok 0 rfl)))
  (e_Lok (ps_bipush_33 (x_dk dn_398_0_0_ok 1 rfl))))
  (e_Tok2
  (e_Lok (ld_iload_n_1 (x_dk dn_398_0_0_ok 2 rfl)))
  (e_Lok (sm_imul (x_dk dn_398_0_0_ok 3 rfl)))))
  (e_Tok2
  (e_Tok2
  (e_Lok (sm_iadd (x_dk dn_398_0_0_ok 4 rfl)))
  (e_Lok (e_st (I := eI) (er_istore_n (i := 2) (x_dk dn_398_0_0_ok 5 rfl) (by decide +kernel)) nx_stor)))
  (e_Tok2
  (e_Lok (ps_iconst_0 (x_dk dn_398_0_0_ok 6 rfl)))
  (e_Lok (e_st (I := eI) (er_istore_n (i := 3) (x_dk dn_398_0_0_ok 7 rfl) (by decide +kernel)) nx_stor)))))
  (e_Tok2
  (e_Tok2
  (e_Tok2
  (e_Lok (ps_iconst_1 (x_dk dn_398_0_0_ok 8 rfl)))
  (e_Lok (e_st (I := eI) (er_istore (i := 4) (x_dk dn_398_0_0_ok 9 rfl) (by decide +kernel)) nx_stor)))
  (e_Tok2
  (e_Lok (ld_iload_4 (x_dk dn_398_0_0_ok 10 rfl)))
  (e_Lok (ld_aload_n_0 (x_dk dn_398_0_0_ok 11 rfl)))))
  (e_Tok2
  (e_Tok2
  (e_Lok (lk_12_8g ho_398 (x_dk dn_398_0_0_ok 12 rfl)))
  (e_Lok (ld_iload_n_2 (x_dk dn_398_0_0_ok 13 rfl))))
  (e_Tok2
  (e_Lok (sm_iaload (x_dk dn_398_0_0_ok 14 rfl)))
  (e_Tok2
  (e_Lok (e_st (I := eI) (er_icmpgt (off := 190) (tg := 212) (x_dk dn_398_0_0_ok 15 rfl) (by decide)) nx_if2))
  (e_Lok (ld_aload_n_0 (x_dk dn_398_0_0_ok 16 rfl))))))))
  (e_Tok2
  (e_Tok2
  (e_Tok2
  (e_Tok2
  (e_Lok (lk_12_8g ho_398 (x_dk dn_398_0_0_ok 17 rfl)))
  (e_Lok (ld_iload_n_2 (x_dk dn_398_0_0_ok 18 rfl))))
  (e_Tok2
  (e_Lok (ld_iload_4 (x_dk dn_398_0_0_ok 19 rfl)))
  (e_Lok (sm_iadd (x_dk dn_398_0_0_ok 20 rfl)))))
  (e_Tok2
  (e_Tok2
  (e_Lok (sm_iaload (x_dk dn_398_0_0_ok 21 rfl)))
  (e_Lok (e_st (I := eI) (er_istore (i := 5) (x_dk dn_398_0_0_ok 22 rfl) (by decide +kernel)) nx_stor)))
  (e_Tok2
  (e_Lok (ld_aload_n_0 (x_dk dn_398_0_0_ok 23 rfl)))
  (e_Tok2
  (e_Lok (lk_12_8g ho_398 (x_dk dn_398_0_0_ok 24 rfl)))
  (e_Lok (ld_iload_5 (x_dk dn_398_0_1_ok 0 rfl)))))))
  (e_Tok2
  (e_Tok2
  (e_Tok2
  (e_Lok (lk_12_774 ho_398 (x_dk dn_398_0_1_ok 1 rfl)))
  (e_Lok (ps_iconst_3 (x_dk dn_398_0_1_ok 2 rfl))))
  (e_Tok2
  (e_Lok (sm_iadd (x_dk dn_398_0_1_ok 3 rfl)))
  (e_Lok (sm_iaload (x_dk dn_398_0_1_ok 4 rfl)))))
  (e_Tok2
  (e_Tok2
  (e_Lok (e_st (I := eI) (er_istore (i := 6) (x_dk dn_398_0_1_ok 5 rfl) (by decide +kernel)) nx_stor))
  (e_Lok (ld_iload_6 (x_dk dn_398_0_1_ok 6 rfl))))
  (e_Tok2
  (e_Lok (ld_aload_n_0 (x_dk dn_398_0_1_ok 7 rfl)))
  (e_Tok2
  (e_Lok (lk_12_98g ho_398 (x_dk dn_398_0_1_ok 8 rfl)))
  (e_Lok (ld_iload_n_1 (x_dk dn_398_0_1_ok 9 rfl)))))))))
def te_398_35 : Nat → eE := (e_T 84 (e_T 68 (e_T 60 (e_T 58 (e_T 57 (e_L 57 (0, ei_ald elay false 58, 0, 0)) (e_L 58 (0, ei_bin eF_add 59, 0, 0))) (e_T 59 (e_L 59 (0, ei_load 0 2 60, 0, 0)) (e_L 60 (0, ei_getf eft elay 12 34 63, 0, 0)))) (e_T 64 (e_T 63 (e_L 63 (0, ei_load 1 0 64, 0, 0)) (e_L 64 (0, ei_ald elay false 65, 0, 0))) (e_T 65 (e_L 65 (0, ei_if2 3 80 68, 0, 0)) (e_L 68 (0, ei_load 6 0 70, 0, 0))))) (e_T 75 (e_T 71 (e_T 70 (e_L 70 (0, ei_load 0 2 71, 0, 0)) (e_L 71 (0, ei_getf eft elay 12 35 74, 0, 0))) (e_T 74 (e_L 74 (0, ei_load 1 0 75, 0, 0)) (e_L 75 (0, ei_ald elay false 76, 0, 0)))) (e_T 77 (e_T 76 (e_L 76 (0, ei_bin eF_add 77, 0, 0)) (e_L 77 (0, ei_goto 86, 0, 0))) (e_T 80 (e_L 80 (0, ei_load 0 2 81, 0, 0)) (e_T 81 (e_L 81 (0, ei_getf eft elay 12 34 84, 0, 0)) (e_L 84 (0, ei_load 1 0 85, 0, 0))))))) (e_T 99 (e_T 90 (e_T 86 (e_T 85 (e_L 85 (0, ei_ald elay false 86, 0, 0)) (e_L 86 (0, ei_stor 7 0 88, 0, 0))) (e_T 88 (e_L 88 (0, ei_load 4 0 90, 0, 0)) (e_L 90 (0, ei_push (0, 1) 91, 0, 0)))) (e_T 94 (e_T 91 (e_L 91 (0, ei_if2 5 153 94, 0, 0)) (e_L 94 (0, ei_load 0 2 95, 0, 0))) (e_T 95 (e_L 95 (0, ei_getf eft elay 12 0 98, 0, 0)) (e_T 98 (e_L 98 (0, ei_load 2 0 99, 0, 0)) (e_L 99 (0, ei_load 4 0 101, 0, 0)))))) (e_T 104 (e_T 102 (e_T 101 (e_L 101 (0, ei_bin eF_add 102, 0, 0)) (e_L 102 (0, ei_push (0, 1) 103, 0, 0))) (e_T 103 (e_L 103 (0, ei_bin eF_sub 104, 0, 0)) (e_L 104 (0, ei_ald elay false 105, 0, 0)))) (e_T 107 (e_T 105 (e_L 105 (0, ei_stor 8 0 107, 0, 0)) (e_L 107 (0, ei_load 0 2 108, 0, 0))) (e_T 108 (e_L 108 (0, ei_getf eft elay 12 0 111, 0, 0)) (e_T 111 (e_L 111 (0, ei_load 8 0 113, 0, 0)) (e_L 113 (2, e_nof, 392, 1))))))))
set_option maxRecDepth 20000 in
set_option maxHeartbeats 4000000 in
theorem te_398_35_ok : ∀ pc, e_EOq eft cls elay eI n_398 pc (te_398_35 pc) :=
  (e_Tok2
  (e_Tok2
  (e_Tok2
  (e_Tok2
  (e_Tok2
  (e_Lok (sm_iaload (x_dk dn_398_0_1_ok 10 rfl)))
  (e_Lok (sm_iadd (x_dk dn_398_0_1_ok 11 rfl))))
  (e_Tok2
  (e_Lok (ld_aload_n_0 (x_dk dn_398_0_1_ok 12 rfl)))
  (e_Lok (lk_12_95g ho_398 (x_dk dn_398_0_1_ok 13 rfl)))))
  (e_Tok2
  (e_Tok2
  (e_Lok (ld_iload_n_1 (x_dk dn_398_0_1_ok 14 rfl)))
  (e_Lok (sm_iaload (x_dk dn_398_0_1_ok 15 rfl))))
  (e_Tok2
  (e_Lok (e_st (I := eI) (er_icmpge (off := 15) (tg := 80) (x_dk dn_398_0_1_ok 16 rfl) (by decide)) nx_if2))
  (e_Lok (ld_iload_6 (x_dk dn_398_0_1_ok 17 rfl))))))
  (e_Tok2
  (e_Tok2
  (e_Tok2
  (e_Lok (ld_aload_n_0 (x_dk dn_398_0_1_ok 18 rfl)))
  (e_Lok (lk_12_98g ho_398 (x_dk dn_398_0_1_ok 19 rfl))))
  (e_Tok2
  (e_Lok (ld_iload_n_1 (x_dk dn_398_0_1_ok 20 rfl)))
  (e_Lok (sm_iaload (x_dk dn_398_0_1_ok 21 rfl)))))
  (e_Tok2
  (e_Tok2
  (e_Lok (sm_iadd (x_dk dn_398_0_1_ok 22 rfl)))
  (e_Lok (e_st (I := eI) (er_goto (off := 9) (tg := 86) (x_dk dn_398_0_1_ok 23 rfl) (by decide)) nx_goto)))
  (e_Tok2
  (e_Lok (ld_aload_n_0 (x_dk dn_398_0_1_ok 24 rfl)))
  (e_Tok2
  (e_Lok (lk_12_95g ho_398 (x_dk dn_398_0_2_ok 0 rfl)))
  (e_Lok (ld_iload_n_1 (x_dk dn_398_0_2_ok 1 rfl))))))))
  (e_Tok2
  (e_Tok2
  (e_Tok2
  (e_Tok2
  (e_Lok (sm_iaload (x_dk dn_398_0_2_ok 2 rfl)))
  (e_Lok (e_st (I := eI) (er_istore (i := 7) (x_dk dn_398_0_2_ok 3 rfl) (by decide +kernel)) nx_stor)))
  (e_Tok2
  (e_Lok (ld_iload_4 (x_dk dn_398_0_2_ok 4 rfl)))
  (e_Lok (ps_iconst_1 (x_dk dn_398_0_2_ok 5 rfl)))))
  (e_Tok2
  (e_Tok2
  (e_Lok (e_st (I := eI) (er_icmple (off := 62) (tg := 153) (x_dk dn_398_0_2_ok 6 rfl) (by decide)) nx_if2))
  (e_Lok (ld_aload_n_0 (x_dk dn_398_0_2_ok 7 rfl))))
  (e_Tok2
  (e_Lok (lk_12_8g ho_398 (x_dk dn_398_0_2_ok 8 rfl)))
  (e_Tok2
  (e_Lok (ld_iload_n_2 (x_dk dn_398_0_2_ok 9 rfl)))
  (e_Lok (ld_iload_4 (x_dk dn_398_0_2_ok 10 rfl)))))))
  (e_Tok2
  (e_Tok2
  (e_Tok2
  (e_Lok (sm_iadd (x_dk dn_398_0_2_ok 11 rfl)))
  (e_Lok (ps_iconst_1 (x_dk dn_398_0_2_ok 12 rfl))))
  (e_Tok2
  (e_Lok (sm_isub (x_dk dn_398_0_2_ok 13 rfl)))
  (e_Lok (sm_iaload (x_dk dn_398_0_2_ok 14 rfl)))))
  (e_Tok2
  (e_Tok2
  (e_Lok (e_st (I := eI) (er_istore (i := 8) (x_dk dn_398_0_2_ok 15 rfl) (by decide +kernel)) nx_stor))
  (e_Lok (ld_aload_n_0 (x_dk dn_398_0_2_ok 16 rfl))))
  (e_Tok2
  (e_Lok (lk_12_8g ho_398 (x_dk dn_398_0_2_ok 17 rfl)))
  (e_Tok2
  (e_Lok (ld_iload_8 (x_dk dn_398_0_2_ok 18 rfl)))
  (e_Lok (lk_12_774 ho_398 (x_dk dn_398_0_2_ok 19 rfl)))))))))
def te_398_70 : Nat → eE := (e_T 141 (e_T 126 (e_T 119 (e_T 117 (e_T 116 (e_L 116 (0, ei_push (0, 3) 117, 0, 0)) (e_L 117 (0, ei_bin eF_add 118, 0, 0))) (e_T 118 (e_L 118 (0, ei_ald elay false 119, 0, 0)) (e_L 119 (0, ei_load 0 2 120, 0, 0)))) (e_T 123 (e_T 120 (e_L 120 (0, ei_getf eft elay 12 41 123, 0, 0)) (e_L 123 (0, ei_load 8 0 125, 0, 0))) (e_T 125 (e_L 125 (0, ei_ald elay false 126, 0, 0)) (e_L 126 (0, ei_bin eF_sub 127, 0, 0))))) (e_T 133 (e_T 128 (e_T 127 (e_L 127 (0, ei_load 0 2 128, 0, 0)) (e_L 128 (0, ei_getf eft elay 12 41 131, 0, 0))) (e_T 131 (e_L 131 (0, ei_load 5 0 133, 0, 0)) (e_L 133 (0, ei_ald elay false 134, 0, 0)))) (e_T 135 (e_T 134 (e_L 134 (0, ei_bin eF_sub 135, 0, 0)) (e_L 135 (0, ei_stor 9 0 137, 0, 0))) (e_T 137 (e_L 137 (0, ei_load 9 0 139, 0, 0)) (e_T 139 (e_L 139 (0, ei_load 7 0 141, 0, 0)) (e_L 141 (0, ei_if2 3 149 144, 0, 0))))))) (e_T 162 (e_T 151 (e_T 146 (e_T 144 (e_L 144 (0, ei_load 9 0 146, 0, 0)) (e_L 146 (0, ei_goto 151, 0, 0))) (e_T 149 (e_L 149 (0, ei_load 7 0 151, 0, 0)) (e_L 151 (0, ei_stor 7 0 153, 0, 0)))) (e_T 155 (e_T 153 (e_L 153 (0, ei_load 7 0 155, 0, 0)) (e_L 155 (0, ei_load 6 0 157, 0, 0))) (e_T 157 (e_L 157 (0, ei_if2 5 165 160, 0, 0)) (e_T 160 (e_L 160 (0, ei_load 7 0 162, 0, 0)) (e_L 162 (0, ei_goto 167, 0, 0)))))) (e_T 170 (e_T 167 (e_T 165 (e_L 165 (0, ei_load 6 0 167, 0, 0)) (e_L 167 (0, ei_stor 6 0 169, 0, 0))) (e_T 169 (e_L 169 (0, ei_load 0 2 170, 0, 0)) (e_L 170 (0, ei_getf eft elay 12 0 173, 0, 0)))) (e_T 175 (e_T 173 (e_L 173 (0, ei_load 5 0 175, 0, 0)) (e_L 175 (2, e_nof, 392, 1))) (e_T 178 (e_L 178 (0, ei_push (0, 3) 179, 0, 0)) (e_T 179 (e_L 179 (0, ei_bin eF_add 180, 0, 0)) (e_L 180 (0, ei_load 6 0 182, 0, 0))))))))
set_option maxRecDepth 20000 in
set_option maxHeartbeats 4000000 in
theorem te_398_70_ok : ∀ pc, e_EOq eft cls elay eI n_398 pc (te_398_70 pc) :=
  (e_Tok2
  (e_Tok2
  (e_Tok2
  (e_Tok2
  (e_Tok2
  (e_Lok (ps_iconst_3 (x_dk dn_398_0_2_ok 20 rfl)))
  (e_Lok (sm_iadd (x_dk dn_398_0_2_ok 21 rfl))))
  (e_Tok2
  (e_Lok (sm_iaload (x_dk dn_398_0_2_ok 22 rfl)))
  (e_Lok (ld_aload_n_0 (x_dk dn_398_0_2_ok 23 rfl)))))
  (e_Tok2
  (e_Tok2
  (e_Lok (lk_12_113g ho_398 (x_dk dn_398_0_2_ok 24 rfl)))
  (e_Lok (ld_iload_8 (x_dk dn_398_0_3_ok 0 rfl))))
  (e_Tok2
  (e_Lok (sm_iaload (x_dk dn_398_0_3_ok 1 rfl)))
  (e_Lok (sm_isub (x_dk dn_398_0_3_ok 2 rfl))))))
  (e_Tok2
  (e_Tok2
  (e_Tok2
  (e_Lok (ld_aload_n_0 (x_dk dn_398_0_3_ok 3 rfl)))
  (e_Lok (lk_12_113g ho_398 (x_dk dn_398_0_3_ok 4 rfl))))
  (e_Tok2
  (e_Lok (ld_iload_5 (x_dk dn_398_0_3_ok 5 rfl)))
  (e_Lok (sm_iaload (x_dk dn_398_0_3_ok 6 rfl)))))
  (e_Tok2
  (e_Tok2
  (e_Lok (sm_isub (x_dk dn_398_0_3_ok 7 rfl)))
  (e_Lok (e_st (I := eI) (er_istore (i := 9) (x_dk dn_398_0_3_ok 8 rfl) (by decide +kernel)) nx_stor)))
  (e_Tok2
  (e_Lok (ld_iload_9 (x_dk dn_398_0_3_ok 9 rfl)))
  (e_Tok2
  (e_Lok (ld_iload_7 (x_dk dn_398_0_3_ok 10 rfl)))
  (e_Lok (e_st (I := eI) (er_icmpge (off := 8) (tg := 149) (x_dk dn_398_0_3_ok 11 rfl) (by decide)) nx_if2)))))))
  (e_Tok2
  (e_Tok2
  (e_Tok2
  (e_Tok2
  (e_Lok (ld_iload_9 (x_dk dn_398_0_3_ok 12 rfl)))
  (e_Lok (e_st (I := eI) (er_goto (off := 5) (tg := 151) (x_dk dn_398_0_3_ok 13 rfl) (by decide)) nx_goto)))
  (e_Tok2
  (e_Lok (ld_iload_7 (x_dk dn_398_0_3_ok 14 rfl)))
  (e_Lok (e_st (I := eI) (er_istore (i := 7) (x_dk dn_398_0_3_ok 15 rfl) (by decide +kernel)) nx_stor))))
  (e_Tok2
  (e_Tok2
  (e_Lok (ld_iload_7 (x_dk dn_398_0_3_ok 16 rfl)))
  (e_Lok (ld_iload_6 (x_dk dn_398_0_3_ok 17 rfl))))
  (e_Tok2
  (e_Lok (e_st (I := eI) (er_icmple (off := 8) (tg := 165) (x_dk dn_398_0_3_ok 18 rfl) (by decide)) nx_if2))
  (e_Tok2
  (e_Lok (ld_iload_7 (x_dk dn_398_0_3_ok 19 rfl)))
  (e_Lok (e_st (I := eI) (er_goto (off := 5) (tg := 167) (x_dk dn_398_0_3_ok 20 rfl) (by decide)) nx_goto))))))
  (e_Tok2
  (e_Tok2
  (e_Tok2
  (e_Lok (ld_iload_6 (x_dk dn_398_0_3_ok 21 rfl)))
  (e_Lok (e_st (I := eI) (er_istore (i := 6) (x_dk dn_398_0_3_ok 22 rfl) (by decide +kernel)) nx_stor)))
  (e_Tok2
  (e_Lok (ld_aload_n_0 (x_dk dn_398_0_3_ok 23 rfl)))
  (e_Lok (lk_12_8g ho_398 (x_dk dn_398_0_3_ok 24 rfl)))))
  (e_Tok2
  (e_Tok2
  (e_Lok (ld_iload_5 (x_dk dn_398_1_0_ok 0 rfl)))
  (e_Lok (lk_12_774 ho_398 (x_dk dn_398_1_0_ok 1 rfl))))
  (e_Tok2
  (e_Lok (ps_iconst_3 (x_dk dn_398_1_0_ok 2 rfl)))
  (e_Tok2
  (e_Lok (sm_iadd (x_dk dn_398_1_0_ok 3 rfl)))
  (e_Lok (ld_iload_6 (x_dk dn_398_1_0_ok 4 rfl)))))))))
def te_398_105 : Nat → eE := (e_T 206 (e_T 193 (e_T 186 (e_T 183 (e_T 182 (e_L 182 (0, ei_ast elay false 183, 0, 0)) (e_L 183 (0, ei_load 3 0 184, 0, 0))) (e_T 184 (e_L 184 (0, ei_load 6 0 186, 0, 0)) (e_L 186 (0, ei_un (fun x => (4, x)) 187, 0, 0)))) (e_T 188 (e_T 187 (e_L 187 (0, ei_load 0 2 188, 0, 0)) (e_L 188 (0, ei_getf eft elay 12 38 191, 0, 0))) (e_T 191 (e_L 191 (0, ei_load 1 0 192, 0, 0)) (e_T 192 (e_L 192 (0, ei_ald elay false 193, 0, 0)) (e_L 193 (0, ei_un (fun x => (4, x)) 194, 0, 0)))))) (e_T 199 (e_T 195 (e_T 194 (e_L 194 (0, ei_load 0 2 195, 0, 0)) (e_L 195 (0, ei_getf eft elay 12 39 198, 0, 0))) (e_T 198 (e_L 198 (0, ei_load 1 0 199, 0, 0)) (e_L 199 (0, ei_ald elay false 200, 0, 0)))) (e_T 201 (e_T 200 (e_L 200 (0, ei_un (fun x => (4, x)) 201, 0, 0)) (e_L 201 (2, e_nof, 266, 3))) (e_T 204 (e_L 204 (0, ei_bin (eB (fun x y => x ||| y)) 205, 0, 0)) (e_T 205 (e_L 205 (0, ei_stor 3 0 206, 0, 0)) (e_L 206 (0, ei_inc 4 1 209, 0, 0))))))) (e_T 223 (e_T 216 (e_T 212 (e_T 209 (e_L 209 (0, ei_goto 14, 0, 0)) (e_L 212 (0, ei_load 0 2 213, 0, 0))) (e_T 213 (e_L 213 (0, ei_getf eft elay 12 37 216, 0, 0)) (e_L 216 (0, ei_load 1 0 217, 0, 0)))) (e_T 218 (e_T 217 (e_L 217 (0, ei_ald elay false 218, 0, 0)) (e_L 218 (0, ei_if1 2 240 221, 0, 0))) (e_T 221 (e_L 221 (0, ei_load 0 2 222, 0, 0)) (e_T 222 (e_L 222 (0, ei_load 0 2 223, 0, 0)) (e_L 223 (0, ei_getf eft elay 12 37 226, 0, 0)))))) (e_T 229 (e_T 227 (e_T 226 (e_L 226 (0, ei_load 1 0 227, 0, 0)) (e_L 227 (0, ei_ald elay false 228, 0, 0))) (e_T 228 (e_L 228 (0, ei_load 3 0 229, 0, 0)) (e_L 229 (0, ei_if1 0 236 232, 0, 0)))) (e_T 233 (e_T 232 (e_L 232 (0, ei_push (0, 1) 233, 0, 0)) (e_L 233 (0, ei_goto 237, 0, 0))) (e_T 236 (e_L 236 (0, ei_push (0, 0) 237, 0, 0)) (e_T 237 (e_L 237 (2, e_nof, 323, 3)) (e_L 240 (1, e_nof, 0, 0))))))))
set_option maxRecDepth 20000 in
set_option maxHeartbeats 4000000 in
theorem te_398_105_ok : ∀ pc, e_EOq eft cls elay eI n_398 pc (te_398_105 pc) :=
  (e_Tok2
  (e_Tok2
  (e_Tok2
  (e_Tok2
  (e_Tok2
  (e_Lok (sm_iastore (x_dk dn_398_1_0_ok 5 rfl)))
  (e_Lok (ld_iload_n_3 (x_dk dn_398_1_0_ok 6 rfl))))
  (e_Tok2
  (e_Lok (ld_iload_6 (x_dk dn_398_1_0_ok 7 rfl)))
  (e_Lok (e_st (I := eI) (er_i2l (x_dk dn_398_1_0_ok 8 rfl)) (nx_un (fun _ => rfl))))))
  (e_Tok2
  (e_Tok2
  (e_Lok (ld_aload_n_0 (x_dk dn_398_1_0_ok 9 rfl)))
  (e_Lok (lk_12_107g ho_398 (x_dk dn_398_1_0_ok 10 rfl))))
  (e_Tok2
  (e_Lok (ld_iload_n_1 (x_dk dn_398_1_0_ok 11 rfl)))
  (e_Tok2
  (e_Lok (sm_iaload (x_dk dn_398_1_0_ok 12 rfl)))
  (e_Lok (e_st (I := eI) (er_i2l (x_dk dn_398_1_0_ok 13 rfl)) (nx_un (fun _ => rfl))))))))
  (e_Tok2
  (e_Tok2
  (e_Tok2
  (e_Lok (ld_aload_n_0 (x_dk dn_398_1_0_ok 14 rfl)))
  (e_Lok (lk_12_110g ho_398 (x_dk dn_398_1_0_ok 15 rfl))))
  (e_Tok2
  (e_Lok (ld_iload_n_1 (x_dk dn_398_1_0_ok 16 rfl)))
  (e_Lok (sm_iaload (x_dk dn_398_1_0_ok 17 rfl)))))
  (e_Tok2
  (e_Tok2
  (e_Lok (e_st (I := eI) (er_i2l (x_dk dn_398_1_0_ok 18 rfl)) (nx_un (fun _ => rfl))))
  (e_Lok (lk_12_301 ho_398 (x_dk dn_398_1_0_ok 19 rfl))))
  (e_Tok2
  (e_Lok (e_st (I := eI) (er_ior (x_dk dn_398_1_0_ok 20 rfl)) nx_bin))
  (e_Tok2
  (e_Lok (e_st (I := eI) (er_istore_n (i := 3) (x_dk dn_398_1_0_ok 21 rfl) (by decide +kernel)) nx_stor))
  (e_Lok (e_st (I := eI) (er_iinc (i := 4) (n := 1) (x_dk dn_398_1_0_ok 22 rfl) (by decide +kernel) (by decide)) nx_inc)))))))
  (e_Tok2
  (e_Tok2
  (e_Tok2
  (e_Tok2
  (e_Lok (e_st (I := eI) (er_goto (off := (-195)) (tg := 14) (x_dk dn_398_1_0_ok 23 rfl) (by decide)) nx_goto))
  (e_Lok (ld_aload_n_0 (x_dk dn_398_1_0_ok 24 rfl))))
  (e_Tok2
  (e_Lok (lk_12_104g ho_398 (x_dk dn_398_1_1_ok 0 rfl)))
  (e_Lok (ld_iload_n_1 (x_dk dn_398_1_1_ok 1 rfl)))))
  (e_Tok2
  (e_Tok2
  (e_Lok (sm_iaload (x_dk dn_398_1_1_ok 2 rfl)))
  (e_Lok (e_st (I := eI) (er_iflt (off := 22) (tg := 240) (x_dk dn_398_1_1_ok 3 rfl) (by decide)) nx_if1)))
  (e_Tok2
  (e_Lok (ld_aload_n_0 (x_dk dn_398_1_1_ok 4 rfl)))
  (e_Tok2
  (e_Lok (ld_aload_n_0 (x_dk dn_398_1_1_ok 5 rfl)))
  (e_Lok (lk_12_104g ho_398 (x_dk dn_398_1_1_ok 6 rfl)))))))
  (e_Tok2
  (e_Tok2
  (e_Tok2
  (e_Lok (ld_iload_n_1 (x_dk dn_398_1_1_ok 7 rfl)))
  (e_Lok (sm_iaload (x_dk dn_398_1_1_ok 8 rfl))))
  (e_Tok2
  (e_Lok (ld_iload_n_3 (x_dk dn_398_1_1_ok 9 rfl)))
  (e_Lok (e_st (I := eI) (er_ifeq (off := 7) (tg := 236) (x_dk dn_398_1_1_ok 10 rfl) (by decide)) nx_if1))))
  (e_Tok2
  (e_Tok2
  (e_Lok (ps_iconst_1 (x_dk dn_398_1_1_ok 11 rfl)))
  (e_Lok (e_st (I := eI) (er_goto (off := 4) (tg := 237) (x_dk dn_398_1_1_ok 12 rfl) (by decide)) nx_goto)))
  (e_Tok2
  (e_Lok (ps_iconst_0 (x_dk dn_398_1_1_ok 13 rfl)))
  (e_Tok2
  (e_Lok (lk_12_729 ho_398 (x_dk dn_398_1_1_ok 14 rfl)))
  (e_Lok (e_rt (I := eI) (k := 0) ⟨(x_dk dn_398_1_1_ok 15 rfl), rfl⟩))))))))
def te_398 : Nat → eE := (e_T 113 (e_T 56 te_398_0 te_398_35) (e_T 180 te_398_70 te_398_105))
theorem te_398_ok : ∀ pc, e_EOq eft cls elay eI n_398 pc (te_398 pc) := (e_Tok2 ((e_Tok2 (te_398_0_ok) (te_398_35_ok))) ((e_Tok2 (te_398_70_ok) (te_398_105_ok))))
theorem ho_399 : (xm_y n_399).cls = "RobotCellHouseModel" := rfl
def dn_399_0_0 : List (Nat × Instr × Nat) := [(0, .sipush 20836, 3), (3, .iconst 4, 1), (4, .iload_n 1, 1), (5, .imul, 1), (6, .iadd, 1), (7, .istore_n 2, 1), (8, .aload_n 0, 1), (9, .getfield 8, 3), (12, .iload_n 2, 1), (13, .iaload, 1), (14, .iconst 1, 1), (15, .if_icmp .ne 30, 3), (18, .aload_n 0, 1), (19, .getfield 8, 3), (22, .iload_n 2, 1), (23, .iconst 1, 1), (24, .iadd, 1), (25, .iaload, 1), (26, .iconst 1, 1), (27, .if_icmp .ne 18, 3), (30, .aload_n 0, 1), (31, .getfield 8, 3), (34, .iload_n 2, 1), (35, .iconst 3, 1), (36, .iadd, 1)]
set_option maxRecDepth 20000 in
theorem dn_399_0_0_ok : dn_399_0_0.all (fun q => decide (decode (xm_b n_399) q.1 = .ok (q.2.1, q.2.2))) = true := xa_g_ok (by decide +kernel)
def dn_399_0_1 : List (Nat × Instr × Nat) := [(37, .iaload, 1), (38, .ifCond .ne 7, 3), (41, .iconst 1, 1), (42, .goto 4, 3), (45, .iconst 0, 1), (46, .ireturn, 1)]
set_option maxRecDepth 20000 in
theorem dn_399_0_1_ok : dn_399_0_1.all (fun q => decide (decode (xm_b n_399) q.1 = .ok (q.2.1, q.2.2))) = true := xa_g_ok (by decide +kernel)
def te_399_0 : Nat → eE := (e_T 22 (e_T 8 (e_T 4 (e_T 0 (e_L 0 (0, ei_push (0, 20836) 3, 0, 0)) (e_T 3 (e_L 3 (0, ei_push (0, 4) 4, 0, 0)) (e_L 4 (0, ei_load 1 0 5, 0, 0)))) (e_T 6 (e_T 5 (e_L 5 (0, ei_bin eF_mul 6, 0, 0)) (e_L 6 (0, ei_bin eF_add 7, 0, 0))) (e_T 7 (e_L 7 (0, ei_stor 2 0 8, 0, 0)) (e_L 8 (0, ei_load 0 2 9, 0, 0))))) (e_T 14 (e_T 12 (e_T 9 (e_L 9 (0, ei_getf eft elay 12 0 12, 0, 0)) (e_L 12 (0, ei_load 2 0 13, 0, 0))) (e_T 13 (e_L 13 (0, ei_ald elay false 14, 0, 0)) (e_L 14 (0, ei_push (0, 1) 15, 0, 0)))) (e_T 18 (e_T 15 (e_L 15 (0, ei_if2 1 45 18, 0, 0)) (e_L 18 (0, ei_load 0 2 19, 0, 0))) (e_T 19 (e_L 19 (0, ei_getf eft elay 12 0 22, 0, 0)) (e_L 22 (0, ei_load 2 0 23, 0, 0)))))) (e_T 34 (e_T 26 (e_T 24 (e_T 23 (e_L 23 (0, ei_push (0, 1) 24, 0, 0)) (e_L 24 (0, ei_bin eF_add 25, 0, 0))) (e_T 25 (e_L 25 (0, ei_ald elay false 26, 0, 0)) (e_L 26 (0, ei_push (0, 1) 27, 0, 0)))) (e_T 30 (e_T 27 (e_L 27 (0, ei_if2 1 45 30, 0, 0)) (e_L 30 (0, ei_load 0 2 31, 0, 0))) (e_T 31 (e_L 31 (0, ei_getf eft elay 12 0 34, 0, 0)) (e_L 34 (0, ei_load 2 0 35, 0, 0))))) (e_T 38 (e_T 36 (e_T 35 (e_L 35 (0, ei_push (0, 3) 36, 0, 0)) (e_L 36 (0, ei_bin eF_add 37, 0, 0))) (e_T 37 (e_L 37 (0, ei_ald elay false 38, 0, 0)) (e_L 38 (0, ei_if1 1 45 41, 0, 0)))) (e_T 42 (e_T 41 (e_L 41 (0, ei_push (0, 1) 42, 0, 0)) (e_L 42 (0, ei_goto 46, 0, 0))) (e_T 45 (e_L 45 (0, ei_push (0, 0) 46, 0, 0)) (e_L 46 (1, e_nof, 4, 0)))))))
set_option maxRecDepth 20000 in
set_option maxHeartbeats 4000000 in
theorem te_399_0_ok : ∀ pc, e_EOq eft cls elay eI n_399 pc (te_399_0 pc) :=
  (e_Tok2
  (e_Tok2
  (e_Tok2
  (e_Tok2
  (e_Lok (ps_sipush_20836 (x_dk dn_399_0_0_ok 0 rfl)))
  (e_Tok2
  (e_Lok (ps_iconst_4 (x_dk dn_399_0_0_ok 1 rfl)))
  (e_Lok (ld_iload_n_1 (x_dk dn_399_0_0_ok 2 rfl)))))
  (e_Tok2
  (e_Tok2
  (e_Lok (sm_imul (x_dk dn_399_0_0_ok 3 rfl)))
  (e_Lok (sm_iadd (x_dk dn_399_0_0_ok 4 rfl))))
  (e_Tok2
  (e_Lok (e_st (I := eI) (er_istore_n (i := 2) (x_dk dn_399_0_0_ok 5 rfl) (by decide +kernel)) nx_stor))
  (e_Lok (ld_aload_n_0 (x_dk dn_399_0_0_ok 6 rfl))))))
  (e_Tok2
  (e_Tok2
  (e_Tok2
  (e_Lok (lk_12_8g ho_399 (x_dk dn_399_0_0_ok 7 rfl)))
  (e_Lok (ld_iload_n_2 (x_dk dn_399_0_0_ok 8 rfl))))
  (e_Tok2
  (e_Lok (sm_iaload (x_dk dn_399_0_0_ok 9 rfl)))
  (e_Lok (ps_iconst_1 (x_dk dn_399_0_0_ok 10 rfl)))))
  (e_Tok2
  (e_Tok2
  (e_Lok (e_st (I := eI) (er_icmpne (off := 30) (tg := 45) (x_dk dn_399_0_0_ok 11 rfl) (by decide)) nx_if2))
  (e_Lok (ld_aload_n_0 (x_dk dn_399_0_0_ok 12 rfl))))
  (e_Tok2
  (e_Lok (lk_12_8g ho_399 (x_dk dn_399_0_0_ok 13 rfl)))
  (e_Lok (ld_iload_n_2 (x_dk dn_399_0_0_ok 14 rfl)))))))
  (e_Tok2
  (e_Tok2
  (e_Tok2
  (e_Tok2
  (e_Lok (ps_iconst_1 (x_dk dn_399_0_0_ok 15 rfl)))
  (e_Lok (sm_iadd (x_dk dn_399_0_0_ok 16 rfl))))
  (e_Tok2
  (e_Lok (sm_iaload (x_dk dn_399_0_0_ok 17 rfl)))
  (e_Lok (ps_iconst_1 (x_dk dn_399_0_0_ok 18 rfl)))))
  (e_Tok2
  (e_Tok2
  (e_Lok (e_st (I := eI) (er_icmpne (off := 18) (tg := 45) (x_dk dn_399_0_0_ok 19 rfl) (by decide)) nx_if2))
  (e_Lok (ld_aload_n_0 (x_dk dn_399_0_0_ok 20 rfl))))
  (e_Tok2
  (e_Lok (lk_12_8g ho_399 (x_dk dn_399_0_0_ok 21 rfl)))
  (e_Lok (ld_iload_n_2 (x_dk dn_399_0_0_ok 22 rfl))))))
  (e_Tok2
  (e_Tok2
  (e_Tok2
  (e_Lok (ps_iconst_3 (x_dk dn_399_0_0_ok 23 rfl)))
  (e_Lok (sm_iadd (x_dk dn_399_0_0_ok 24 rfl))))
  (e_Tok2
  (e_Lok (sm_iaload (x_dk dn_399_0_1_ok 0 rfl)))
  (e_Lok (e_st (I := eI) (er_ifne (off := 7) (tg := 45) (x_dk dn_399_0_1_ok 1 rfl) (by decide)) nx_if1))))
  (e_Tok2
  (e_Tok2
  (e_Lok (ps_iconst_1 (x_dk dn_399_0_1_ok 2 rfl)))
  (e_Lok (e_st (I := eI) (er_goto (off := 4) (tg := 46) (x_dk dn_399_0_1_ok 3 rfl) (by decide)) nx_goto)))
  (e_Tok2
  (e_Lok (ps_iconst_0 (x_dk dn_399_0_1_ok 4 rfl)))
  (e_Lok (e_rt (I := eI) (k := 4) ⟨(x_dk dn_399_0_1_ok 5 rfl), rfl⟩)))))))
def te_399 : Nat → eE := te_399_0
theorem te_399_ok : ∀ pc, e_EOq eft cls elay eI n_399 pc (te_399 pc) := te_399_0_ok
theorem ho_400 : (xm_y n_400).cls = "RobotCellHouseModel" := rfl
def dn_400_0_0 : List (Nat × Instr × Nat) := [(0, .iconst 0, 1), (1, .istore_n 1, 1), (2, .iload_n 1, 1), (3, .aload_n 0, 1), (4, .getfield 285, 3), (7, .if_icmp .ge 19, 3), (10, .aload_n 0, 1), (11, .iload_n 1, 1), (12, .invokevirtual 780, 3), (15, .ifCond .ne 5, 3), (18, .iload_n 1, 1), (19, .ireturn, 1), (20, .iinc 1 1, 3), (23, .goto (-21), 3), (26, .iconst (-1), 1), (27, .ireturn, 1)]
set_option maxRecDepth 20000 in
theorem dn_400_0_0_ok : dn_400_0_0.all (fun q => decide (decode (xm_b n_400) q.1 = .ok (q.2.1, q.2.2))) = true := xa_g_ok (by decide +kernel)
def te_400_0 : Nat → eE := (e_T 11 (e_T 3 (e_T 1 (e_T 0 (e_L 0 (0, ei_push (0, 0) 1, 0, 0)) (e_L 1 (0, ei_stor 1 0 2, 0, 0))) (e_T 2 (e_L 2 (0, ei_load 1 0 3, 0, 0)) (e_L 3 (0, ei_load 0 2 4, 0, 0)))) (e_T 7 (e_T 4 (e_L 4 (0, ei_getf eft elay 12 49 7, 0, 0)) (e_L 7 (0, ei_if2 3 26 10, 0, 0))) (e_T 10 (e_L 10 (0, ei_load 0 2 11, 0, 0)) (e_L 11 (0, ei_load 1 0 12, 0, 0))))) (e_T 19 (e_T 15 (e_T 12 (e_L 12 (2, e_nof, 399, 2)) (e_L 15 (0, ei_if1 1 20 18, 0, 0))) (e_T 18 (e_L 18 (0, ei_load 1 0 19, 0, 0)) (e_L 19 (1, e_nof, 1, 0)))) (e_T 23 (e_T 20 (e_L 20 (0, ei_inc 1 1 23, 0, 0)) (e_L 23 (0, ei_goto 2, 0, 0))) (e_T 26 (e_L 26 (0, ei_push (0, (-1)) 27, 0, 0)) (e_L 27 (1, e_nof, 1, 0))))))
set_option maxRecDepth 20000 in
set_option maxHeartbeats 4000000 in
theorem te_400_0_ok : ∀ pc, e_EOq eft cls elay eI n_400 pc (te_400_0 pc) :=
  (e_Tok2
  (e_Tok2
  (e_Tok2
  (e_Tok2
  (e_Lok (ps_iconst_0 (x_dk dn_400_0_0_ok 0 rfl)))
  (e_Lok (e_st (I := eI) (er_istore_n (i := 1) (x_dk dn_400_0_0_ok 1 rfl) (by decide +kernel)) nx_stor)))
  (e_Tok2
  (e_Lok (ld_iload_n_1 (x_dk dn_400_0_0_ok 2 rfl)))
  (e_Lok (ld_aload_n_0 (x_dk dn_400_0_0_ok 3 rfl)))))
  (e_Tok2
  (e_Tok2
  (e_Lok (lk_12_285g ho_400 (x_dk dn_400_0_0_ok 4 rfl)))
  (e_Lok (e_st (I := eI) (er_icmpge (off := 19) (tg := 26) (x_dk dn_400_0_0_ok 5 rfl) (by decide)) nx_if2)))
  (e_Tok2
  (e_Lok (ld_aload_n_0 (x_dk dn_400_0_0_ok 6 rfl)))
  (e_Lok (ld_iload_n_1 (x_dk dn_400_0_0_ok 7 rfl))))))
  (e_Tok2
  (e_Tok2
  (e_Tok2
  (e_Lok (lk_12_780 ho_400 (x_dk dn_400_0_0_ok 8 rfl)))
  (e_Lok (e_st (I := eI) (er_ifne (off := 5) (tg := 20) (x_dk dn_400_0_0_ok 9 rfl) (by decide)) nx_if1)))
  (e_Tok2
  (e_Lok (ld_iload_n_1 (x_dk dn_400_0_0_ok 10 rfl)))
  (e_Lok (e_rt (I := eI) (k := 1) ⟨(x_dk dn_400_0_0_ok 11 rfl), rfl⟩))))
  (e_Tok2
  (e_Tok2
  (e_Lok (e_st (I := eI) (er_iinc (i := 1) (n := 1) (x_dk dn_400_0_0_ok 12 rfl) (by decide +kernel) (by decide)) nx_inc))
  (e_Lok (e_st (I := eI) (er_goto (off := (-21)) (tg := 2) (x_dk dn_400_0_0_ok 13 rfl) (by decide)) nx_goto)))
  (e_Tok2
  (e_Lok (ps_iconst_m1 (x_dk dn_400_0_0_ok 14 rfl)))
  (e_Lok (e_rt (I := eI) (k := 1) ⟨(x_dk dn_400_0_0_ok 15 rfl), rfl⟩))))))
def te_400 : Nat → eE := te_400_0
theorem te_400_ok : ∀ pc, e_EOq eft cls elay eI n_400 pc (te_400 pc) := te_400_0_ok
theorem ho_401 : (xm_y n_401).cls = "RobotCellHouseModel" := rfl
def dn_401_0_0 : List (Nat × Instr × Nat) := [(0, .iconst 0, 1), (1, .istore_n 1, 1), (2, .iload_n 1, 1), (3, .aload_n 0, 1), (4, .getfield 285, 3), (7, .if_icmp .ge 93, 3), (10, .sipush 20836, 3), (13, .iconst 4, 1), (14, .iload_n 1, 1), (15, .imul, 1), (16, .iadd, 1), (17, .istore_n 2, 1), (18, .aload_n 0, 1), (19, .getfield 8, 3), (22, .iload_n 2, 1), (23, .iconst 2, 1), (24, .iadd, 1), (25, .aload_n 0, 1), (26, .getfield 8, 3), (29, .iload_n 2, 1), (30, .iaload, 1), (31, .aload_n 0, 1), (32, .getfield 8, 3), (35, .iload_n 2, 1), (36, .iconst 1, 1)]
set_option maxRecDepth 20000 in
theorem dn_401_0_0_ok : dn_401_0_0.all (fun q => decide (decode (xm_b n_401) q.1 = .ok (q.2.1, q.2.2))) = true := xa_g_ok (by decide +kernel)
def dn_401_0_1 : List (Nat × Instr × Nat) := [(37, .iadd, 1), (38, .iaload, 1), (39, .if_icmp .eq 16, 3), (42, .aload_n 0, 1), (43, .getfield 8, 3), (46, .iload_n 2, 1), (47, .iconst 2, 1), (48, .iadd, 1), (49, .iaload, 1), (50, .iconst 1, 1), (51, .iadd, 1), (52, .goto 4, 3), (55, .iconst 0, 1), (56, .iastore, 1), (57, .aload_n 0, 1), (58, .getfield 8, 3), (61, .iload_n 2, 1), (62, .iconst 3, 1), (63, .iadd, 1), (64, .aload_n 0, 1), (65, .getfield 8, 3), (68, .iload_n 2, 1), (69, .iconst 2, 1), (70, .iadd, 1), (71, .iaload, 1)]
set_option maxRecDepth 20000 in
theorem dn_401_0_1_ok : dn_401_0_1.all (fun q => decide (decode (xm_b n_401) q.1 = .ok (q.2.1, q.2.2))) = true := xa_g_ok (by decide +kernel)
def dn_401_0_2 : List (Nat × Instr × Nat) := [(72, .aload_n 0, 1), (73, .getfield 134, 3), (76, .iload_n 1, 1), (77, .iaload, 1), (78, .if_icmp .le 7, 3), (81, .iconst 1, 1), (82, .goto 11, 3), (85, .aload_n 0, 1), (86, .getfield 8, 3), (89, .iload_n 2, 1), (90, .iconst 3, 1), (91, .iadd, 1), (92, .iaload, 1), (93, .iastore, 1), (94, .iinc 1 1, 3), (97, .goto (-95), 3), (100, .return_, 1)]
set_option maxRecDepth 20000 in
theorem dn_401_0_2_ok : dn_401_0_2.all (fun q => decide (decode (xm_b n_401) q.1 = .ok (q.2.1, q.2.2))) = true := xa_g_ok (by decide +kernel)
def te_401_0 : Nat → eE := (e_T 23 (e_T 13 (e_T 3 (e_T 1 (e_T 0 (e_L 0 (0, ei_push (0, 0) 1, 0, 0)) (e_L 1 (0, ei_stor 1 0 2, 0, 0))) (e_T 2 (e_L 2 (0, ei_load 1 0 3, 0, 0)) (e_L 3 (0, ei_load 0 2 4, 0, 0)))) (e_T 7 (e_T 4 (e_L 4 (0, ei_getf eft elay 12 49 7, 0, 0)) (e_L 7 (0, ei_if2 3 100 10, 0, 0))) (e_T 10 (e_L 10 (0, ei_push (0, 20836) 13, 0, 0)) (e_L 13 (0, ei_push (0, 4) 14, 0, 0))))) (e_T 17 (e_T 15 (e_T 14 (e_L 14 (0, ei_load 1 0 15, 0, 0)) (e_L 15 (0, ei_bin eF_mul 16, 0, 0))) (e_T 16 (e_L 16 (0, ei_bin eF_add 17, 0, 0)) (e_L 17 (0, ei_stor 2 0 18, 0, 0)))) (e_T 19 (e_T 18 (e_L 18 (0, ei_load 0 2 19, 0, 0)) (e_L 19 (0, ei_getf eft elay 12 0 22, 0, 0))) (e_T 22 (e_L 22 (0, ei_load 2 0 23, 0, 0)) (e_L 23 (0, ei_push (0, 2) 24, 0, 0)))))) (e_T 35 (e_T 29 (e_T 25 (e_T 24 (e_L 24 (0, ei_bin eF_add 25, 0, 0)) (e_L 25 (0, ei_load 0 2 26, 0, 0))) (e_T 26 (e_L 26 (0, ei_getf eft elay 12 0 29, 0, 0)) (e_L 29 (0, ei_load 2 0 30, 0, 0)))) (e_T 31 (e_T 30 (e_L 30 (0, ei_ald elay false 31, 0, 0)) (e_L 31 (0, ei_load 0 2 32, 0, 0))) (e_T 32 (e_L 32 (0, ei_getf eft elay 12 0 35, 0, 0)) (e_L 35 (0, ei_load 2 0 36, 0, 0))))) (e_T 39 (e_T 37 (e_T 36 (e_L 36 (0, ei_push (0, 1) 37, 0, 0)) (e_L 37 (0, ei_bin eF_add 38, 0, 0))) (e_T 38 (e_L 38 (0, ei_ald elay false 39, 0, 0)) (e_L 39 (0, ei_if2 0 55 42, 0, 0)))) (e_T 43 (e_T 42 (e_L 42 (0, ei_load 0 2 43, 0, 0)) (e_L 43 (0, ei_getf eft elay 12 0 46, 0, 0))) (e_T 46 (e_L 46 (0, ei_load 2 0 47, 0, 0)) (e_T 47 (e_L 47 (0, ei_push (0, 2) 48, 0, 0)) (e_L 48 (0, ei_bin eF_add 49, 0, 0))))))))
set_option maxRecDepth 20000 in
set_option maxHeartbeats 4000000 in
theorem te_401_0_ok : ∀ pc, e_EOq eft cls elay eI n_401 pc (te_401_0 pc) :=
  (e_Tok2
  (e_Tok2
  (e_Tok2
  (e_Tok2
  (e_Tok2
  (e_Lok (ps_iconst_0 (x_dk dn_401_0_0_ok 0 rfl)))
  (e_Lok (e_st (I := eI) (er_istore_n (i := 1) (x_dk dn_401_0_0_ok 1 rfl) (by decide +kernel)) nx_stor)))
  (e_Tok2
  (e_Lok (ld_iload_n_1 (x_dk dn_401_0_0_ok 2 rfl)))
  (e_Lok (ld_aload_n_0 (x_dk dn_401_0_0_ok 3 rfl)))))
  (e_Tok2
  (e_Tok2
  (e_Lok (lk_12_285g ho_401 (x_dk dn_401_0_0_ok 4 rfl)))
  (e_Lok (e_st (I := eI) (er_icmpge (off := 93) (tg := 100) (x_dk dn_401_0_0_ok 5 rfl) (by decide)) nx_if2)))
  (e_Tok2
  (e_Lok (ps_sipush_20836 (x_dk dn_401_0_0_ok 6 rfl)))
  (e_Lok (ps_iconst_4 (x_dk dn_401_0_0_ok 7 rfl))))))
  (e_Tok2
  (e_Tok2
  (e_Tok2
  (e_Lok (ld_iload_n_1 (x_dk dn_401_0_0_ok 8 rfl)))
  (e_Lok (sm_imul (x_dk dn_401_0_0_ok 9 rfl))))
  (e_Tok2
  (e_Lok (sm_iadd (x_dk dn_401_0_0_ok 10 rfl)))
  (e_Lok (e_st (I := eI) (er_istore_n (i := 2) (x_dk dn_401_0_0_ok 11 rfl) (by decide +kernel)) nx_stor))))
  (e_Tok2
  (e_Tok2
  (e_Lok (ld_aload_n_0 (x_dk dn_401_0_0_ok 12 rfl)))
  (e_Lok (lk_12_8g ho_401 (x_dk dn_401_0_0_ok 13 rfl))))
  (e_Tok2
  (e_Lok (ld_iload_n_2 (x_dk dn_401_0_0_ok 14 rfl)))
  (e_Lok (ps_iconst_2 (x_dk dn_401_0_0_ok 15 rfl)))))))
  (e_Tok2
  (e_Tok2
  (e_Tok2
  (e_Tok2
  (e_Lok (sm_iadd (x_dk dn_401_0_0_ok 16 rfl)))
  (e_Lok (ld_aload_n_0 (x_dk dn_401_0_0_ok 17 rfl))))
  (e_Tok2
  (e_Lok (lk_12_8g ho_401 (x_dk dn_401_0_0_ok 18 rfl)))
  (e_Lok (ld_iload_n_2 (x_dk dn_401_0_0_ok 19 rfl)))))
  (e_Tok2
  (e_Tok2
  (e_Lok (sm_iaload (x_dk dn_401_0_0_ok 20 rfl)))
  (e_Lok (ld_aload_n_0 (x_dk dn_401_0_0_ok 21 rfl))))
  (e_Tok2
  (e_Lok (lk_12_8g ho_401 (x_dk dn_401_0_0_ok 22 rfl)))
  (e_Lok (ld_iload_n_2 (x_dk dn_401_0_0_ok 23 rfl))))))
  (e_Tok2
  (e_Tok2
  (e_Tok2
  (e_Lok (ps_iconst_1 (x_dk dn_401_0_0_ok 24 rfl)))
  (e_Lok (sm_iadd (x_dk dn_401_0_1_ok 0 rfl))))
  (e_Tok2
  (e_Lok (sm_iaload (x_dk dn_401_0_1_ok 1 rfl)))
  (e_Lok (e_st (I := eI) (er_icmpeq (off := 16) (tg := 55) (x_dk dn_401_0_1_ok 2 rfl) (by decide)) nx_if2))))
  (e_Tok2
  (e_Tok2
  (e_Lok (ld_aload_n_0 (x_dk dn_401_0_1_ok 3 rfl)))
  (e_Lok (lk_12_8g ho_401 (x_dk dn_401_0_1_ok 4 rfl))))
  (e_Tok2
  (e_Lok (ld_iload_n_2 (x_dk dn_401_0_1_ok 5 rfl)))
  (e_Tok2
  (e_Lok (ps_iconst_2 (x_dk dn_401_0_1_ok 6 rfl)))
  (e_Lok (sm_iadd (x_dk dn_401_0_1_ok 7 rfl)))))))))
def te_401_33 : Nat → eE := (e_T 71 (e_T 58 (e_T 52 (e_T 50 (e_T 49 (e_L 49 (0, ei_ald elay false 50, 0, 0)) (e_L 50 (0, ei_push (0, 1) 51, 0, 0))) (e_T 51 (e_L 51 (0, ei_bin eF_add 52, 0, 0)) (e_L 52 (0, ei_goto 56, 0, 0)))) (e_T 56 (e_T 55 (e_L 55 (0, ei_push (0, 0) 56, 0, 0)) (e_L 56 (0, ei_ast elay false 57, 0, 0))) (e_T 57 (e_L 57 (0, ei_load 0 2 58, 0, 0)) (e_L 58 (0, ei_getf eft elay 12 0 61, 0, 0))))) (e_T 64 (e_T 62 (e_T 61 (e_L 61 (0, ei_load 2 0 62, 0, 0)) (e_L 62 (0, ei_push (0, 3) 63, 0, 0))) (e_T 63 (e_L 63 (0, ei_bin eF_add 64, 0, 0)) (e_L 64 (0, ei_load 0 2 65, 0, 0)))) (e_T 68 (e_T 65 (e_L 65 (0, ei_getf eft elay 12 0 68, 0, 0)) (e_L 68 (0, ei_load 2 0 69, 0, 0))) (e_T 69 (e_L 69 (0, ei_push (0, 2) 70, 0, 0)) (e_T 70 (e_L 70 (0, ei_bin eF_add 71, 0, 0)) (e_L 71 (0, ei_ald elay false 72, 0, 0))))))) (e_T 85 (e_T 77 (e_T 73 (e_T 72 (e_L 72 (0, ei_load 0 2 73, 0, 0)) (e_L 73 (0, ei_getf eft elay 12 50 76, 0, 0))) (e_T 76 (e_L 76 (0, ei_load 1 0 77, 0, 0)) (e_L 77 (0, ei_ald elay false 78, 0, 0)))) (e_T 81 (e_T 78 (e_L 78 (0, ei_if2 5 85 81, 0, 0)) (e_L 81 (0, ei_push (0, 1) 82, 0, 0))) (e_T 82 (e_L 82 (0, ei_goto 93, 0, 0)) (e_L 85 (0, ei_load 0 2 86, 0, 0))))) (e_T 91 (e_T 89 (e_T 86 (e_L 86 (0, ei_getf eft elay 12 0 89, 0, 0)) (e_L 89 (0, ei_load 2 0 90, 0, 0))) (e_T 90 (e_L 90 (0, ei_push (0, 3) 91, 0, 0)) (e_L 91 (0, ei_bin eF_add 92, 0, 0)))) (e_T 93 (e_T 92 (e_L 92 (0, ei_ald elay false 93, 0, 0)) (e_L 93 (0, ei_ast elay false 94, 0, 0))) (e_T 94 (e_L 94 (0, ei_inc 1 1 97, 0, 0)) (e_T 97 (e_L 97 (0, ei_goto 2, 0, 0)) (e_L 100 (1, e_nof, 0, 0))))))))
set_option maxRecDepth 20000 in
set_option maxHeartbeats 4000000 in
theorem te_401_33_ok : ∀ pc, e_EOq eft cls elay eI n_401 pc (te_401_33 pc) :=
  (e_Tok2
  (e_Tok2
  (e_Tok2
  (e_Tok2
  (e_Tok2
  (e_Lok (sm_iaload (x_dk dn_401_0_1_ok 8 rfl)))
  (e_Lok (ps_iconst_1 (x_dk dn_401_0_1_ok 9 rfl))))
  (e_Tok2
  (e_Lok (sm_iadd (x_dk dn_401_0_1_ok 10 rfl)))
  (e_Lok (e_st (I := eI) (er_goto (off := 4) (tg := 56) (x_dk dn_401_0_1_ok 11 rfl) (by decide)) nx_goto))))
  (e_Tok2
  (e_Tok2
  (e_Lok (ps_iconst_0 (x_dk dn_401_0_1_ok 12 rfl)))
  (e_Lok (sm_iastore (x_dk dn_401_0_1_ok 13 rfl))))
  (e_Tok2
  (e_Lok (ld_aload_n_0 (x_dk dn_401_0_1_ok 14 rfl)))
  (e_Lok (lk_12_8g ho_401 (x_dk dn_401_0_1_ok 15 rfl))))))
  (e_Tok2
  (e_Tok2
  (e_Tok2
  (e_Lok (ld_iload_n_2 (x_dk dn_401_0_1_ok 16 rfl)))
  (e_Lok (ps_iconst_3 (x_dk dn_401_0_1_ok 17 rfl))))
  (e_Tok2
  (e_Lok (sm_iadd (x_dk dn_401_0_1_ok 18 rfl)))
  (e_Lok (ld_aload_n_0 (x_dk dn_401_0_1_ok 19 rfl)))))
  (e_Tok2
  (e_Tok2
  (e_Lok (lk_12_8g ho_401 (x_dk dn_401_0_1_ok 20 rfl)))
  (e_Lok (ld_iload_n_2 (x_dk dn_401_0_1_ok 21 rfl))))
  (e_Tok2
  (e_Lok (ps_iconst_2 (x_dk dn_401_0_1_ok 22 rfl)))
  (e_Tok2
  (e_Lok (sm_iadd (x_dk dn_401_0_1_ok 23 rfl)))
  (e_Lok (sm_iaload (x_dk dn_401_0_1_ok 24 rfl))))))))
  (e_Tok2
  (e_Tok2
  (e_Tok2
  (e_Tok2
  (e_Lok (ld_aload_n_0 (x_dk dn_401_0_2_ok 0 rfl)))
  (e_Lok (lk_12_134g ho_401 (x_dk dn_401_0_2_ok 1 rfl))))
  (e_Tok2
  (e_Lok (ld_iload_n_1 (x_dk dn_401_0_2_ok 2 rfl)))
  (e_Lok (sm_iaload (x_dk dn_401_0_2_ok 3 rfl)))))
  (e_Tok2
  (e_Tok2
  (e_Lok (e_st (I := eI) (er_icmple (off := 7) (tg := 85) (x_dk dn_401_0_2_ok 4 rfl) (by decide)) nx_if2))
  (e_Lok (ps_iconst_1 (x_dk dn_401_0_2_ok 5 rfl))))
  (e_Tok2
  (e_Lok (e_st (I := eI) (er_goto (off := 11) (tg := 93) (x_dk dn_401_0_2_ok 6 rfl) (by decide)) nx_goto))
  (e_Lok (ld_aload_n_0 (x_dk dn_401_0_2_ok 7 rfl))))))
  (e_Tok2
  (e_Tok2
  (e_Tok2
  (e_Lok (lk_12_8g ho_401 (x_dk dn_401_0_2_ok 8 rfl)))
  (e_Lok (ld_iload_n_2 (x_dk dn_401_0_2_ok 9 rfl))))
  (e_Tok2
  (e_Lok (ps_iconst_3 (x_dk dn_401_0_2_ok 10 rfl)))
  (e_Lok (sm_iadd (x_dk dn_401_0_2_ok 11 rfl)))))
  (e_Tok2
  (e_Tok2
  (e_Lok (sm_iaload (x_dk dn_401_0_2_ok 12 rfl)))
  (e_Lok (sm_iastore (x_dk dn_401_0_2_ok 13 rfl))))
  (e_Tok2
  (e_Lok (e_st (I := eI) (er_iinc (i := 1) (n := 1) (x_dk dn_401_0_2_ok 14 rfl) (by decide +kernel) (by decide)) nx_inc))
  (e_Tok2
  (e_Lok (e_st (I := eI) (er_goto (off := (-95)) (tg := 2) (x_dk dn_401_0_2_ok 15 rfl) (by decide)) nx_goto))
  (e_Lok (e_rt (I := eI) (k := 0) ⟨(x_dk dn_401_0_2_ok 16 rfl), rfl⟩))))))))
def te_401 : Nat → eE := (e_T 48 te_401_0 te_401_33)
theorem te_401_ok : ∀ pc, e_EOq eft cls elay eI n_401 pc (te_401 pc) := (e_Tok2 (te_401_0_ok) (te_401_33_ok))
theorem ho_402 : (xm_y n_402).cls = "RobotCellHouseModel" := rfl
def dn_402_0_0 : List (Nat × Instr × Nat) := [(0, .iconst 0, 1), (1, .istore_n 1, 1), (2, .iload_n 1, 1), (3, .aload_n 0, 1), (4, .getfield 269, 3), (7, .if_icmp .ge 52, 3), (10, .iconst 0, 1), (11, .istore_n 2, 1), (12, .iload_n 2, 1), (13, .aload_n 0, 1), (14, .getfield 43, 3), (17, .iload_n 1, 1), (18, .iaload, 1), (19, .if_icmp .ge 34, 3), (22, .aload_n 0, 1), (23, .getfield 225, 3), (26, .bipush 6, 2), (28, .iload_n 1, 1), (29, .imul, 1), (30, .iload_n 2, 1), (31, .iadd, 1), (32, .aload_n 0, 1), (33, .getfield 8, 3), (36, .iload_n 1, 1), (37, .invokestatic 294, 3)]
set_option maxRecDepth 20000 in
theorem dn_402_0_0_ok : dn_402_0_0.all (fun q => decide (decode (xm_b n_402) q.1 = .ok (q.2.1, q.2.2))) = true := xa_g_ok (by decide +kernel)
def dn_402_0_1 : List (Nat × Instr × Nat) := [(40, .bipush 22, 2), (42, .iadd, 1), (43, .iload_n 2, 1), (44, .iadd, 1), (45, .iaload, 1), (46, .iastore, 1), (47, .iinc 2 1, 3), (50, .goto (-38), 3), (53, .iinc 1 1, 3), (56, .goto (-54), 3), (59, .iconst 0, 1), (60, .istore_n 1, 1), (61, .iload_n 1, 1), (62, .aload_n 0, 1), (63, .getfield 269, 3), (66, .if_icmp .ge 14, 3), (69, .aload_n 0, 1), (70, .iload_n 1, 1), (71, .invokevirtual 783, 3), (74, .iinc 1 1, 3), (77, .goto (-16), 3), (80, .return_, 1)]
set_option maxRecDepth 20000 in
theorem dn_402_0_1_ok : dn_402_0_1.all (fun q => decide (decode (xm_b n_402) q.1 = .ok (q.2.1, q.2.2))) = true := xa_g_ok (by decide +kernel)
def te_402_0 : Nat → eE := (e_T 14 (e_T 4 (e_T 1 (e_T 0 (e_L 0 (0, ei_push (0, 0) 1, 0, 0)) (e_L 1 (0, ei_stor 1 0 2, 0, 0))) (e_T 2 (e_L 2 (0, ei_load 1 0 3, 0, 0)) (e_T 3 (e_L 3 (0, ei_load 0 2 4, 0, 0)) (e_L 4 (0, ei_getf eft elay 12 10 7, 0, 0))))) (e_T 11 (e_T 7 (e_L 7 (0, ei_if2 3 59 10, 0, 0)) (e_T 10 (e_L 10 (0, ei_push (0, 0) 11, 0, 0)) (e_L 11 (0, ei_stor 2 0 12, 0, 0)))) (e_T 12 (e_L 12 (0, ei_load 2 0 13, 0, 0)) (e_T 13 (e_L 13 (0, ei_load 0 2 14, 0, 0)) (e_L 14 (0, ei_getf eft elay 12 15 17, 0, 0)))))) (e_T 26 (e_T 19 (e_T 17 (e_L 17 (0, ei_load 1 0 18, 0, 0)) (e_T 18 (e_L 18 (0, ei_ald elay false 19, 0, 0)) (e_L 19 (0, ei_if2 3 53 22, 0, 0)))) (e_T 22 (e_L 22 (0, ei_load 0 2 23, 0, 0)) (e_T 23 (e_L 23 (0, ei_getf eft elay 12 103 26, 0, 0)) (e_L 26 (0, ei_push (0, 6) 28, 0, 0))))) (e_T 30 (e_T 28 (e_L 28 (0, ei_load 1 0 29, 0, 0)) (e_T 29 (e_L 29 (0, ei_bin eF_mul 30, 0, 0)) (e_L 30 (0, ei_load 2 0 31, 0, 0)))) (e_T 31 (e_L 31 (0, ei_bin eF_add 32, 0, 0)) (e_T 32 (e_L 32 (0, ei_load 0 2 33, 0, 0)) (e_L 33 (0, ei_getf eft elay 12 0 36, 0, 0)))))))
set_option maxRecDepth 20000 in
set_option maxHeartbeats 4000000 in
theorem te_402_0_ok : ∀ pc, e_EOq eft cls elay eI n_402 pc (te_402_0 pc) :=
  (e_Tok2
  (e_Tok2
  (e_Tok2
  (e_Tok2
  (e_Lok (ps_iconst_0 (x_dk dn_402_0_0_ok 0 rfl)))
  (e_Lok (e_st (I := eI) (er_istore_n (i := 1) (x_dk dn_402_0_0_ok 1 rfl) (by decide +kernel)) nx_stor)))
  (e_Tok2
  (e_Lok (ld_iload_n_1 (x_dk dn_402_0_0_ok 2 rfl)))
  (e_Tok2
  (e_Lok (ld_aload_n_0 (x_dk dn_402_0_0_ok 3 rfl)))
  (e_Lok (lk_12_269g ho_402 (x_dk dn_402_0_0_ok 4 rfl))))))
  (e_Tok2
  (e_Tok2
  (e_Lok (e_st (I := eI) (er_icmpge (off := 52) (tg := 59) (x_dk dn_402_0_0_ok 5 rfl) (by decide)) nx_if2))
  (e_Tok2
  (e_Lok (ps_iconst_0 (x_dk dn_402_0_0_ok 6 rfl)))
  (e_Lok (e_st (I := eI) (er_istore_n (i := 2) (x_dk dn_402_0_0_ok 7 rfl) (by decide +kernel)) nx_stor))))
  (e_Tok2
  (e_Lok (ld_iload_n_2 (x_dk dn_402_0_0_ok 8 rfl)))
  (e_Tok2
  (e_Lok (ld_aload_n_0 (x_dk dn_402_0_0_ok 9 rfl)))
  (e_Lok (lk_12_43g ho_402 (x_dk dn_402_0_0_ok 10 rfl)))))))
  (e_Tok2
  (e_Tok2
  (e_Tok2
  (e_Lok (ld_iload_n_1 (x_dk dn_402_0_0_ok 11 rfl)))
  (e_Tok2
  (e_Lok (sm_iaload (x_dk dn_402_0_0_ok 12 rfl)))
  (e_Lok (e_st (I := eI) (er_icmpge (off := 34) (tg := 53) (x_dk dn_402_0_0_ok 13 rfl) (by decide)) nx_if2))))
  (e_Tok2
  (e_Lok (ld_aload_n_0 (x_dk dn_402_0_0_ok 14 rfl)))
  (e_Tok2
  (e_Lok (lk_12_225g ho_402 (x_dk dn_402_0_0_ok 15 rfl)))
  (e_Lok (ps_bipush_6 (x_dk dn_402_0_0_ok 16 rfl))))))
  (e_Tok2
  (e_Tok2
  (e_Lok (ld_iload_n_1 (x_dk dn_402_0_0_ok 17 rfl)))
  (e_Tok2
  (e_Lok (sm_imul (x_dk dn_402_0_0_ok 18 rfl)))
  (e_Lok (ld_iload_n_2 (x_dk dn_402_0_0_ok 19 rfl)))))
  (e_Tok2
  (e_Lok (sm_iadd (x_dk dn_402_0_0_ok 20 rfl)))
  (e_Tok2
  (e_Lok (ld_aload_n_0 (x_dk dn_402_0_0_ok 21 rfl)))
  (e_Lok (lk_12_8g ho_402 (x_dk dn_402_0_0_ok 22 rfl))))))))
def te_402_23 : Nat → eE := (e_T 56 (e_T 44 (e_T 40 (e_T 36 (e_L 36 (0, ei_load 1 0 37, 0, 0)) (e_T 37 (e_L 37 (2, e_nof, 268, 1)) (e_L 40 (0, ei_push (0, 22) 42, 0, 0)))) (e_T 42 (e_L 42 (0, ei_bin eF_add 43, 0, 0)) (e_T 43 (e_L 43 (0, ei_load 2 0 44, 0, 0)) (e_L 44 (0, ei_bin eF_add 45, 0, 0))))) (e_T 47 (e_T 45 (e_L 45 (0, ei_ald elay false 46, 0, 0)) (e_T 46 (e_L 46 (0, ei_ast elay false 47, 0, 0)) (e_L 47 (0, ei_inc 2 1 50, 0, 0)))) (e_T 50 (e_L 50 (0, ei_goto 12, 0, 0)) (e_T 53 (e_L 53 (0, ei_inc 1 1 56, 0, 0)) (e_L 56 (0, ei_goto 2, 0, 0)))))) (e_T 66 (e_T 61 (e_T 59 (e_L 59 (0, ei_push (0, 0) 60, 0, 0)) (e_T 60 (e_L 60 (0, ei_stor 1 0 61, 0, 0)) (e_L 61 (0, ei_load 1 0 62, 0, 0)))) (e_T 62 (e_L 62 (0, ei_load 0 2 63, 0, 0)) (e_T 63 (e_L 63 (0, ei_getf eft elay 12 10 66, 0, 0)) (e_L 66 (0, ei_if2 3 80 69, 0, 0))))) (e_T 71 (e_T 69 (e_L 69 (0, ei_load 0 2 70, 0, 0)) (e_T 70 (e_L 70 (0, ei_load 1 0 71, 0, 0)) (e_L 71 (2, e_nof, 388, 2)))) (e_T 74 (e_L 74 (0, ei_inc 1 1 77, 0, 0)) (e_T 77 (e_L 77 (0, ei_goto 61, 0, 0)) (e_L 80 (1, e_nof, 0, 0)))))))
set_option maxRecDepth 20000 in
set_option maxHeartbeats 4000000 in
theorem te_402_23_ok : ∀ pc, e_EOq eft cls elay eI n_402 pc (te_402_23 pc) :=
  (e_Tok2
  (e_Tok2
  (e_Tok2
  (e_Tok2
  (e_Lok (ld_iload_n_1 (x_dk dn_402_0_0_ok 23 rfl)))
  (e_Tok2
  (e_Lok (lk_12_294 ho_402 (x_dk dn_402_0_0_ok 24 rfl)))
  (e_Lok (ps_bipush_22 (x_dk dn_402_0_1_ok 0 rfl)))))
  (e_Tok2
  (e_Lok (sm_iadd (x_dk dn_402_0_1_ok 1 rfl)))
  (e_Tok2
  (e_Lok (ld_iload_n_2 (x_dk dn_402_0_1_ok 2 rfl)))
  (e_Lok (sm_iadd (x_dk dn_402_0_1_ok 3 rfl))))))
  (e_Tok2
  (e_Tok2
  (e_Lok (sm_iaload (x_dk dn_402_0_1_ok 4 rfl)))
  (e_Tok2
  (e_Lok (sm_iastore (x_dk dn_402_0_1_ok 5 rfl)))
  (e_Lok (e_st (I := eI) (er_iinc (i := 2) (n := 1) (x_dk dn_402_0_1_ok 6 rfl) (by decide +kernel) (by decide)) nx_inc))))
  (e_Tok2
  (e_Lok (e_st (I := eI) (er_goto (off := (-38)) (tg := 12) (x_dk dn_402_0_1_ok 7 rfl) (by decide)) nx_goto))
  (e_Tok2
  (e_Lok (e_st (I := eI) (er_iinc (i := 1) (n := 1) (x_dk dn_402_0_1_ok 8 rfl) (by decide +kernel) (by decide)) nx_inc))
  (e_Lok (e_st (I := eI) (er_goto (off := (-54)) (tg := 2) (x_dk dn_402_0_1_ok 9 rfl) (by decide)) nx_goto))))))
  (e_Tok2
  (e_Tok2
  (e_Tok2
  (e_Lok (ps_iconst_0 (x_dk dn_402_0_1_ok 10 rfl)))
  (e_Tok2
  (e_Lok (e_st (I := eI) (er_istore_n (i := 1) (x_dk dn_402_0_1_ok 11 rfl) (by decide +kernel)) nx_stor))
  (e_Lok (ld_iload_n_1 (x_dk dn_402_0_1_ok 12 rfl)))))
  (e_Tok2
  (e_Lok (ld_aload_n_0 (x_dk dn_402_0_1_ok 13 rfl)))
  (e_Tok2
  (e_Lok (lk_12_269g ho_402 (x_dk dn_402_0_1_ok 14 rfl)))
  (e_Lok (e_st (I := eI) (er_icmpge (off := 14) (tg := 80) (x_dk dn_402_0_1_ok 15 rfl) (by decide)) nx_if2)))))
  (e_Tok2
  (e_Tok2
  (e_Lok (ld_aload_n_0 (x_dk dn_402_0_1_ok 16 rfl)))
  (e_Tok2
  (e_Lok (ld_iload_n_1 (x_dk dn_402_0_1_ok 17 rfl)))
  (e_Lok (lk_12_783 ho_402 (x_dk dn_402_0_1_ok 18 rfl)))))
  (e_Tok2
  (e_Lok (e_st (I := eI) (er_iinc (i := 1) (n := 1) (x_dk dn_402_0_1_ok 19 rfl) (by decide +kernel) (by decide)) nx_inc))
  (e_Tok2
  (e_Lok (e_st (I := eI) (er_goto (off := (-16)) (tg := 61) (x_dk dn_402_0_1_ok 20 rfl) (by decide)) nx_goto))
  (e_Lok (e_rt (I := eI) (k := 0) ⟨(x_dk dn_402_0_1_ok 21 rfl), rfl⟩)))))))
def te_402 : Nat → eE := (e_T 33 te_402_0 te_402_23)
theorem te_402_ok : ∀ pc, e_EOq eft cls elay eI n_402 pc (te_402 pc) := (e_Tok2 (te_402_0_ok) (te_402_23_ok))
theorem ho_403 : (xm_y n_403).cls = "RobotCellHouseModel" := rfl
def dn_403_0_0 : List (Nat × Instr × Nat) := [(0, .iconst 0, 1), (1, .istore_n 2, 1), (2, .iload_n 2, 1), (3, .aload_n 0, 1), (4, .getfield 269, 3), (7, .if_icmp .ge 178, 3), (10, .iconst 0, 1), (11, .istore_n 3, 1), (12, .iload_n 3, 1), (13, .aload_n 0, 1), (14, .getfield 43, 3), (17, .iload_n 2, 1), (18, .iaload, 1), (19, .if_icmp .ge 160, 3), (22, .bipush 6, 2), (24, .iload_n 2, 1), (25, .imul, 1), (26, .iload_n 3, 1), (27, .iadd, 1), (28, .istore 4, 2), (30, .aload_n 0, 1), (31, .getfield 8, 3), (34, .iload_n 2, 1), (35, .invokestatic 294, 3), (38, .bipush 22, 2)]
set_option maxRecDepth 20000 in
theorem dn_403_0_0_ok : dn_403_0_0.all (fun q => decide (decode (xm_b n_403) q.1 = .ok (q.2.1, q.2.2))) = true := xa_g_ok (by decide +kernel)
def dn_403_0_1 : List (Nat × Instr × Nat) := [(40, .iadd, 1), (41, .iload_n 3, 1), (42, .iadd, 1), (43, .iaload, 1), (44, .istore 5, 2), (46, .iload 5, 2), (48, .aload_n 0, 1), (49, .getfield 225, 3), (52, .iload 4, 2), (54, .iaload, 1), (55, .isub, 1), (56, .istore 6, 2), (58, .iload_n 1, 1), (59, .ifCond .eq 59, 3), (62, .iload 5, 2), (64, .i2l, 1), (65, .aload_n 0, 1), (66, .getfield 55, 3), (69, .iload 4, 2), (71, .iaload, 1), (72, .ineg, 1), (73, .i2l, 1), (74, .aload_n 0, 1), (75, .getfield 55, 3), (78, .iload 4, 2)]
set_option maxRecDepth 20000 in
theorem dn_403_0_1_ok : dn_403_0_1.all (fun q => decide (decode (xm_b n_403) q.1 = .ok (q.2.1, q.2.2))) = true := xa_g_ok (by decide +kernel)
def dn_403_0_2 : List (Nat × Instr × Nat) := [(80, .iaload, 1), (81, .i2l, 1), (82, .invokestatic 301, 3), (85, .ifCond .eq 29, 3), (88, .iload 6, 2), (90, .i2l, 1), (91, .aload_n 0, 1), (92, .getfield 58, 3), (95, .iload 4, 2), (97, .iaload, 1), (98, .ineg, 1), (99, .i2l, 1), (100, .aload_n 0, 1), (101, .getfield 58, 3), (104, .iload 4, 2), (106, .iaload, 1), (107, .i2l, 1), (108, .invokestatic 301, 3), (111, .ifCond .ne 7, 3), (114, .iconst 1, 1), (115, .goto 4, 3), (118, .iconst 0, 1), (119, .istore 7, 2), (121, .aload_n 0, 1), (122, .iconst 0, 1)]
set_option maxRecDepth 20000 in
theorem dn_403_0_2_ok : dn_403_0_2.all (fun q => decide (decode (xm_b n_403) q.1 = .ok (q.2.1, q.2.2))) = true := xa_g_ok (by decide +kernel)
def dn_403_0_3 : List (Nat × Instr × Nat) := [(123, .aload_n 0, 1), (124, .getfield 8, 3), (127, .iload_n 2, 1), (128, .invokestatic 294, 3), (131, .bipush 16, 2), (133, .iadd, 1), (134, .iload_n 3, 1), (135, .iadd, 1), (136, .iaload, 1), (137, .i2l, 1), (138, .aload_n 0, 1), (139, .getfield 49, 3), (142, .iload 4, 2), (144, .iaload, 1), (145, .i2l, 1), (146, .aload_n 0, 1), (147, .getfield 52, 3), (150, .iload 4, 2), (152, .iaload, 1), (153, .i2l, 1), (154, .invokestatic 301, 3), (157, .ifCond .eq 8, 3), (160, .iload 7, 2), (162, .ifCond .eq 7, 3), (165, .iconst 1, 1)]
set_option maxRecDepth 20000 in
theorem dn_403_0_3_ok : dn_403_0_3.all (fun q => decide (decode (xm_b n_403) q.1 = .ok (q.2.1, q.2.2))) = true := xa_g_ok (by decide +kernel)
def dn_403_1_0 : List (Nat × Instr × Nat) := [(166, .goto 4, 3), (169, .iconst 0, 1), (170, .invokevirtual 765, 3), (173, .iinc 3 1, 3), (176, .goto (-164), 3), (179, .iinc 2 1, 3), (182, .goto (-180), 3), (185, .return_, 1)]
set_option maxRecDepth 20000 in
theorem dn_403_1_0_ok : dn_403_1_0.all (fun q => decide (decode (xm_b n_403) q.1 = .ok (q.2.1, q.2.2))) = true := xa_g_ok (by decide +kernel)
def te_403_0 : Nat → eE := (e_T 18 (e_T 7 (e_T 2 (e_T 0 (e_L 0 (0, ei_push (0, 0) 1, 0, 0)) (e_T 1 (e_L 1 (0, ei_stor 2 0 2, 0, 0)) (e_L 2 (0, ei_load 2 0 3, 0, 0)))) (e_T 3 (e_L 3 (0, ei_load 0 2 4, 0, 0)) (e_T 4 (e_L 4 (0, ei_getf eft elay 12 10 7, 0, 0)) (e_L 7 (0, ei_if2 3 185 10, 0, 0))))) (e_T 12 (e_T 10 (e_L 10 (0, ei_push (0, 0) 11, 0, 0)) (e_T 11 (e_L 11 (0, ei_stor 3 0 12, 0, 0)) (e_L 12 (0, ei_load 3 0 13, 0, 0)))) (e_T 14 (e_T 13 (e_L 13 (0, ei_load 0 2 14, 0, 0)) (e_L 14 (0, ei_getf eft elay 12 15 17, 0, 0))) (e_T 17 (e_L 17 (0, ei_load 2 0 18, 0, 0)) (e_L 18 (0, ei_ald elay false 19, 0, 0)))))) (e_T 28 (e_T 24 (e_T 19 (e_L 19 (0, ei_if2 3 179 22, 0, 0)) (e_T 22 (e_L 22 (0, ei_push (0, 6) 24, 0, 0)) (e_L 24 (0, ei_load 2 0 25, 0, 0)))) (e_T 26 (e_T 25 (e_L 25 (0, ei_bin eF_mul 26, 0, 0)) (e_L 26 (0, ei_load 3 0 27, 0, 0))) (e_T 27 (e_L 27 (0, ei_bin eF_add 28, 0, 0)) (e_L 28 (0, ei_stor 4 0 30, 0, 0))))) (e_T 34 (e_T 30 (e_L 30 (0, ei_load 0 2 31, 0, 0)) (e_T 31 (e_L 31 (0, ei_getf eft elay 12 0 34, 0, 0)) (e_L 34 (0, ei_load 2 0 35, 0, 0)))) (e_T 38 (e_T 35 (e_L 35 (2, e_nof, 268, 1)) (e_L 38 (0, ei_push (0, 22) 40, 0, 0))) (e_T 40 (e_L 40 (0, ei_bin eF_add 41, 0, 0)) (e_L 41 (0, ei_load 3 0 42, 0, 0)))))))
set_option maxRecDepth 20000 in
set_option maxHeartbeats 4000000 in
theorem te_403_0_ok : ∀ pc, e_EOq eft cls elay eI n_403 pc (te_403_0 pc) :=
  (e_Tok2
  (e_Tok2
  (e_Tok2
  (e_Tok2
  (e_Lok (ps_iconst_0 (x_dk dn_403_0_0_ok 0 rfl)))
  (e_Tok2
  (e_Lok (e_st (I := eI) (er_istore_n (i := 2) (x_dk dn_403_0_0_ok 1 rfl) (by decide +kernel)) nx_stor))
  (e_Lok (ld_iload_n_2 (x_dk dn_403_0_0_ok 2 rfl)))))
  (e_Tok2
  (e_Lok (ld_aload_n_0 (x_dk dn_403_0_0_ok 3 rfl)))
  (e_Tok2
  (e_Lok (lk_12_269g ho_403 (x_dk dn_403_0_0_ok 4 rfl)))
  (e_Lok (e_st (I := eI) (er_icmpge (off := 178) (tg := 185) (x_dk dn_403_0_0_ok 5 rfl) (by decide)) nx_if2)))))
  (e_Tok2
  (e_Tok2
  (e_Lok (ps_iconst_0 (x_dk dn_403_0_0_ok 6 rfl)))
  (e_Tok2
  (e_Lok (e_st (I := eI) (er_istore_n (i := 3) (x_dk dn_403_0_0_ok 7 rfl) (by decide +kernel)) nx_stor))
  (e_Lok (ld_iload_n_3 (x_dk dn_403_0_0_ok 8 rfl)))))
  (e_Tok2
  (e_Tok2
  (e_Lok (ld_aload_n_0 (x_dk dn_403_0_0_ok 9 rfl)))
  (e_Lok (lk_12_43g ho_403 (x_dk dn_403_0_0_ok 10 rfl))))
  (e_Tok2
  (e_Lok (ld_iload_n_2 (x_dk dn_403_0_0_ok 11 rfl)))
  (e_Lok (sm_iaload (x_dk dn_403_0_0_ok 12 rfl)))))))
  (e_Tok2
  (e_Tok2
  (e_Tok2
  (e_Lok (e_st (I := eI) (er_icmpge (off := 160) (tg := 179) (x_dk dn_403_0_0_ok 13 rfl) (by decide)) nx_if2))
  (e_Tok2
  (e_Lok (ps_bipush_6 (x_dk dn_403_0_0_ok 14 rfl)))
  (e_Lok (ld_iload_n_2 (x_dk dn_403_0_0_ok 15 rfl)))))
  (e_Tok2
  (e_Tok2
  (e_Lok (sm_imul (x_dk dn_403_0_0_ok 16 rfl)))
  (e_Lok (ld_iload_n_3 (x_dk dn_403_0_0_ok 17 rfl))))
  (e_Tok2
  (e_Lok (sm_iadd (x_dk dn_403_0_0_ok 18 rfl)))
  (e_Lok (e_st (I := eI) (er_istore (i := 4) (x_dk dn_403_0_0_ok 19 rfl) (by decide +kernel)) nx_stor)))))
  (e_Tok2
  (e_Tok2
  (e_Lok (ld_aload_n_0 (x_dk dn_403_0_0_ok 20 rfl)))
  (e_Tok2
  (e_Lok (lk_12_8g ho_403 (x_dk dn_403_0_0_ok 21 rfl)))
  (e_Lok (ld_iload_n_2 (x_dk dn_403_0_0_ok 22 rfl)))))
  (e_Tok2
  (e_Tok2
  (e_Lok (lk_12_294 ho_403 (x_dk dn_403_0_0_ok 23 rfl)))
  (e_Lok (ps_bipush_22 (x_dk dn_403_0_0_ok 24 rfl))))
  (e_Tok2
  (e_Lok (sm_iadd (x_dk dn_403_0_1_ok 0 rfl)))
  (e_Lok (ld_iload_n_3 (x_dk dn_403_0_1_ok 1 rfl))))))))
def te_403_27 : Nat → eE := (e_T 62 (e_T 49 (e_T 44 (e_T 42 (e_L 42 (0, ei_bin eF_add 43, 0, 0)) (e_T 43 (e_L 43 (0, ei_ald elay false 44, 0, 0)) (e_L 44 (0, ei_stor 5 0 46, 0, 0)))) (e_T 46 (e_L 46 (0, ei_load 5 0 48, 0, 0)) (e_T 48 (e_L 48 (0, ei_load 0 2 49, 0, 0)) (e_L 49 (0, ei_getf eft elay 12 103 52, 0, 0))))) (e_T 55 (e_T 52 (e_L 52 (0, ei_load 4 0 54, 0, 0)) (e_T 54 (e_L 54 (0, ei_ald elay false 55, 0, 0)) (e_L 55 (0, ei_bin eF_sub 56, 0, 0)))) (e_T 58 (e_T 56 (e_L 56 (0, ei_stor 6 0 58, 0, 0)) (e_L 58 (0, ei_load 1 0 59, 0, 0))) (e_T 59 (e_L 59 (0, ei_if1 0 118 62, 0, 0)) (e_L 62 (0, ei_load 5 0 64, 0, 0)))))) (e_T 73 (e_T 66 (e_T 64 (e_L 64 (0, ei_un (fun x => (4, x)) 65, 0, 0)) (e_T 65 (e_L 65 (0, ei_load 0 2 66, 0, 0)) (e_L 66 (0, ei_getf eft elay 12 19 69, 0, 0)))) (e_T 71 (e_T 69 (e_L 69 (0, ei_load 4 0 71, 0, 0)) (e_L 71 (0, ei_ald elay false 72, 0, 0))) (e_T 72 (e_L 72 (0, ei_un (fun x => (0, e32 (-x))) 73, 0, 0)) (e_L 73 (0, ei_un (fun x => (4, x)) 74, 0, 0))))) (e_T 78 (e_T 74 (e_L 74 (0, ei_load 0 2 75, 0, 0)) (e_T 75 (e_L 75 (0, ei_getf eft elay 12 19 78, 0, 0)) (e_L 78 (0, ei_load 4 0 80, 0, 0)))) (e_T 81 (e_T 80 (e_L 80 (0, ei_ald elay false 81, 0, 0)) (e_L 81 (0, ei_un (fun x => (4, x)) 82, 0, 0))) (e_T 82 (e_L 82 (2, e_nof, 266, 3)) (e_L 85 (0, ei_if1 0 114 88, 0, 0)))))))
set_option maxRecDepth 20000 in
set_option maxHeartbeats 4000000 in
theorem te_403_27_ok : ∀ pc, e_EOq eft cls elay eI n_403 pc (te_403_27 pc) :=
  (e_Tok2
  (e_Tok2
  (e_Tok2
  (e_Tok2
  (e_Lok (sm_iadd (x_dk dn_403_0_1_ok 2 rfl)))
  (e_Tok2
  (e_Lok (sm_iaload (x_dk dn_403_0_1_ok 3 rfl)))
  (e_Lok (e_st (I := eI) (er_istore (i := 5) (x_dk dn_403_0_1_ok 4 rfl) (by decide +kernel)) nx_stor))))
  (e_Tok2
  (e_Lok (ld_iload_5 (x_dk dn_403_0_1_ok 5 rfl)))
  (e_Tok2
  (e_Lok (ld_aload_n_0 (x_dk dn_403_0_1_ok 6 rfl)))
  (e_Lok (lk_12_225g ho_403 (x_dk dn_403_0_1_ok 7 rfl))))))
  (e_Tok2
  (e_Tok2
  (e_Lok (ld_iload_4 (x_dk dn_403_0_1_ok 8 rfl)))
  (e_Tok2
  (e_Lok (sm_iaload (x_dk dn_403_0_1_ok 9 rfl)))
  (e_Lok (sm_isub (x_dk dn_403_0_1_ok 10 rfl)))))
  (e_Tok2
  (e_Tok2
  (e_Lok (e_st (I := eI) (er_istore (i := 6) (x_dk dn_403_0_1_ok 11 rfl) (by decide +kernel)) nx_stor))
  (e_Lok (ld_iload_n_1 (x_dk dn_403_0_1_ok 12 rfl))))
  (e_Tok2
  (e_Lok (e_st (I := eI) (er_ifeq (off := 59) (tg := 118) (x_dk dn_403_0_1_ok 13 rfl) (by decide)) nx_if1))
  (e_Lok (ld_iload_5 (x_dk dn_403_0_1_ok 14 rfl)))))))
  (e_Tok2
  (e_Tok2
  (e_Tok2
  (e_Lok (e_st (I := eI) (er_i2l (x_dk dn_403_0_1_ok 15 rfl)) (nx_un (fun _ => rfl))))
  (e_Tok2
  (e_Lok (ld_aload_n_0 (x_dk dn_403_0_1_ok 16 rfl)))
  (e_Lok (lk_12_55g ho_403 (x_dk dn_403_0_1_ok 17 rfl)))))
  (e_Tok2
  (e_Tok2
  (e_Lok (ld_iload_4 (x_dk dn_403_0_1_ok 18 rfl)))
  (e_Lok (sm_iaload (x_dk dn_403_0_1_ok 19 rfl))))
  (e_Tok2
  (e_Lok (e_st (I := eI) (er_ineg (x_dk dn_403_0_1_ok 20 rfl)) (nx_un (fun _ => rfl))))
  (e_Lok (e_st (I := eI) (er_i2l (x_dk dn_403_0_1_ok 21 rfl)) (nx_un (fun _ => rfl)))))))
  (e_Tok2
  (e_Tok2
  (e_Lok (ld_aload_n_0 (x_dk dn_403_0_1_ok 22 rfl)))
  (e_Tok2
  (e_Lok (lk_12_55g ho_403 (x_dk dn_403_0_1_ok 23 rfl)))
  (e_Lok (ld_iload_4 (x_dk dn_403_0_1_ok 24 rfl)))))
  (e_Tok2
  (e_Tok2
  (e_Lok (sm_iaload (x_dk dn_403_0_2_ok 0 rfl)))
  (e_Lok (e_st (I := eI) (er_i2l (x_dk dn_403_0_2_ok 1 rfl)) (nx_un (fun _ => rfl)))))
  (e_Tok2
  (e_Lok (lk_12_301 ho_403 (x_dk dn_403_0_2_ok 2 rfl)))
  (e_Lok (e_st (I := eI) (er_ifeq (off := 29) (tg := 114) (x_dk dn_403_0_2_ok 3 rfl) (by decide)) nx_if1)))))))
def te_403_54 : Nat → eE := (e_T 107 (e_T 97 (e_T 91 (e_T 88 (e_L 88 (0, ei_load 6 0 90, 0, 0)) (e_T 90 (e_L 90 (0, ei_un (fun x => (4, x)) 91, 0, 0)) (e_L 91 (0, ei_load 0 2 92, 0, 0)))) (e_T 92 (e_L 92 (0, ei_getf eft elay 12 20 95, 0, 0)) (e_T 95 (e_L 95 (0, ei_load 4 0 97, 0, 0)) (e_L 97 (0, ei_ald elay false 98, 0, 0))))) (e_T 100 (e_T 98 (e_L 98 (0, ei_un (fun x => (0, e32 (-x))) 99, 0, 0)) (e_T 99 (e_L 99 (0, ei_un (fun x => (4, x)) 100, 0, 0)) (e_L 100 (0, ei_load 0 2 101, 0, 0)))) (e_T 104 (e_T 101 (e_L 101 (0, ei_getf eft elay 12 20 104, 0, 0)) (e_L 104 (0, ei_load 4 0 106, 0, 0))) (e_T 106 (e_L 106 (0, ei_ald elay false 107, 0, 0)) (e_L 107 (0, ei_un (fun x => (4, x)) 108, 0, 0)))))) (e_T 121 (e_T 114 (e_T 108 (e_L 108 (2, e_nof, 266, 3)) (e_T 111 (e_L 111 (0, ei_if1 1 118 114, 0, 0)) (e_L 114 (0, ei_push (0, 1) 115, 0, 0)))) (e_T 118 (e_T 115 (e_L 115 (0, ei_goto 119, 0, 0)) (e_L 118 (0, ei_push (0, 0) 119, 0, 0))) (e_T 119 (e_L 119 (0, ei_stor 7 0 121, 0, 0)) (e_L 121 (0, ei_load 0 2 122, 0, 0))))) (e_T 124 (e_T 122 (e_L 122 (0, ei_push (0, 0) 123, 0, 0)) (e_T 123 (e_L 123 (0, ei_load 0 2 124, 0, 0)) (e_L 124 (0, ei_getf eft elay 12 0 127, 0, 0)))) (e_T 128 (e_T 127 (e_L 127 (0, ei_load 2 0 128, 0, 0)) (e_L 128 (2, e_nof, 268, 1))) (e_T 131 (e_L 131 (0, ei_push (0, 16) 133, 0, 0)) (e_L 133 (0, ei_bin eF_add 134, 0, 0)))))))
set_option maxRecDepth 20000 in
set_option maxHeartbeats 4000000 in
theorem te_403_54_ok : ∀ pc, e_EOq eft cls elay eI n_403 pc (te_403_54 pc) :=
  (e_Tok2
  (e_Tok2
  (e_Tok2
  (e_Tok2
  (e_Lok (ld_iload_6 (x_dk dn_403_0_2_ok 4 rfl)))
  (e_Tok2
  (e_Lok (e_st (I := eI) (er_i2l (x_dk dn_403_0_2_ok 5 rfl)) (nx_un (fun _ => rfl))))
  (e_Lok (ld_aload_n_0 (x_dk dn_403_0_2_ok 6 rfl)))))
  (e_Tok2
  (e_Lok (lk_12_58g ho_403 (x_dk dn_403_0_2_ok 7 rfl)))
  (e_Tok2
  (e_Lok (ld_iload_4 (x_dk dn_403_0_2_ok 8 rfl)))
  (e_Lok (sm_iaload (x_dk dn_403_0_2_ok 9 rfl))))))
  (e_Tok2
  (e_Tok2
  (e_Lok (e_st (I := eI) (er_ineg (x_dk dn_403_0_2_ok 10 rfl)) (nx_un (fun _ => rfl))))
  (e_Tok2
  (e_Lok (e_st (I := eI) (er_i2l (x_dk dn_403_0_2_ok 11 rfl)) (nx_un (fun _ => rfl))))
  (e_Lok (ld_aload_n_0 (x_dk dn_403_0_2_ok 12 rfl)))))
  (e_Tok2
  (e_Tok2
  (e_Lok (lk_12_58g ho_403 (x_dk dn_403_0_2_ok 13 rfl)))
  (e_Lok (ld_iload_4 (x_dk dn_403_0_2_ok 14 rfl))))
  (e_Tok2
  (e_Lok (sm_iaload (x_dk dn_403_0_2_ok 15 rfl)))
  (e_Lok (e_st (I := eI) (er_i2l (x_dk dn_403_0_2_ok 16 rfl)) (nx_un (fun _ => rfl))))))))
  (e_Tok2
  (e_Tok2
  (e_Tok2
  (e_Lok (lk_12_301 ho_403 (x_dk dn_403_0_2_ok 17 rfl)))
  (e_Tok2
  (e_Lok (e_st (I := eI) (er_ifne (off := 7) (tg := 118) (x_dk dn_403_0_2_ok 18 rfl) (by decide)) nx_if1))
  (e_Lok (ps_iconst_1 (x_dk dn_403_0_2_ok 19 rfl)))))
  (e_Tok2
  (e_Tok2
  (e_Lok (e_st (I := eI) (er_goto (off := 4) (tg := 119) (x_dk dn_403_0_2_ok 20 rfl) (by decide)) nx_goto))
  (e_Lok (ps_iconst_0 (x_dk dn_403_0_2_ok 21 rfl))))
  (e_Tok2
  (e_Lok (e_st (I := eI) (er_istore (i := 7) (x_dk dn_403_0_2_ok 22 rfl) (by decide +kernel)) nx_stor))
  (e_Lok (ld_aload_n_0 (x_dk dn_403_0_2_ok 23 rfl))))))
  (e_Tok2
  (e_Tok2
  (e_Lok (ps_iconst_0 (x_dk dn_403_0_2_ok 24 rfl)))
  (e_Tok2
  (e_Lok (ld_aload_n_0 (x_dk dn_403_0_3_ok 0 rfl)))
  (e_Lok (lk_12_8g ho_403 (x_dk dn_403_0_3_ok 1 rfl)))))
  (e_Tok2
  (e_Tok2
  (e_Lok (ld_iload_n_2 (x_dk dn_403_0_3_ok 2 rfl)))
  (e_Lok (lk_12_294 ho_403 (x_dk dn_403_0_3_ok 3 rfl))))
  (e_Tok2
  (e_Lok (ps_bipush_16 (x_dk dn_403_0_3_ok 4 rfl)))
  (e_Lok (sm_iadd (x_dk dn_403_0_3_ok 5 rfl))))))))
def te_403_81 : Nat → eE := (e_T 152 (e_T 139 (e_T 136 (e_T 134 (e_L 134 (0, ei_load 3 0 135, 0, 0)) (e_T 135 (e_L 135 (0, ei_bin eF_add 136, 0, 0)) (e_L 136 (0, ei_ald elay false 137, 0, 0)))) (e_T 137 (e_L 137 (0, ei_un (fun x => (4, x)) 138, 0, 0)) (e_T 138 (e_L 138 (0, ei_load 0 2 139, 0, 0)) (e_L 139 (0, ei_getf eft elay 12 17 142, 0, 0))))) (e_T 145 (e_T 142 (e_L 142 (0, ei_load 4 0 144, 0, 0)) (e_T 144 (e_L 144 (0, ei_ald elay false 145, 0, 0)) (e_L 145 (0, ei_un (fun x => (4, x)) 146, 0, 0)))) (e_T 147 (e_T 146 (e_L 146 (0, ei_load 0 2 147, 0, 0)) (e_L 147 (0, ei_getf eft elay 12 18 150, 0, 0))) (e_T 150 (e_L 150 (0, ei_load 4 0 152, 0, 0)) (e_L 152 (0, ei_ald elay false 153, 0, 0)))))) (e_T 166 (e_T 157 (e_T 153 (e_L 153 (0, ei_un (fun x => (4, x)) 154, 0, 0)) (e_T 154 (e_L 154 (2, e_nof, 266, 3)) (e_L 157 (0, ei_if1 0 165 160, 0, 0)))) (e_T 162 (e_T 160 (e_L 160 (0, ei_load 7 0 162, 0, 0)) (e_L 162 (0, ei_if1 0 169 165, 0, 0))) (e_T 165 (e_L 165 (0, ei_push (0, 1) 166, 0, 0)) (e_L 166 (0, ei_goto 170, 0, 0))))) (e_T 173 (e_T 169 (e_L 169 (0, ei_push (0, 0) 170, 0, 0)) (e_T 170 (e_L 170 (2, e_nof, 389, 3)) (e_L 173 (0, ei_inc 3 1 176, 0, 0)))) (e_T 179 (e_T 176 (e_L 176 (0, ei_goto 12, 0, 0)) (e_L 179 (0, ei_inc 2 1 182, 0, 0))) (e_T 182 (e_L 182 (0, ei_goto 2, 0, 0)) (e_L 185 (1, e_nof, 0, 0)))))))
set_option maxRecDepth 20000 in
set_option maxHeartbeats 4000000 in
theorem te_403_81_ok : ∀ pc, e_EOq eft cls elay eI n_403 pc (te_403_81 pc) :=
  (e_Tok2
  (e_Tok2
  (e_Tok2
  (e_Tok2
  (e_Lok (ld_iload_n_3 (x_dk dn_403_0_3_ok 6 rfl)))
  (e_Tok2
  (e_Lok (sm_iadd (x_dk dn_403_0_3_ok 7 rfl)))
  (e_Lok (sm_iaload (x_dk dn_403_0_3_ok 8 rfl)))))
  (e_Tok2
  (e_Lok (e_st (I := eI) (er_i2l (x_dk dn_403_0_3_ok 9 rfl)) (nx_un (fun _ => rfl))))
  (e_Tok2
  (e_Lok (ld_aload_n_0 (x_dk dn_403_0_3_ok 10 rfl)))
  (e_Lok (lk_12_49g ho_403 (x_dk dn_403_0_3_ok 11 rfl))))))
  (e_Tok2
  (e_Tok2
  (e_Lok (ld_iload_4 (x_dk dn_403_0_3_ok 12 rfl)))
  (e_Tok2
  (e_Lok (sm_iaload (x_dk dn_403_0_3_ok 13 rfl)))
  (e_Lok (e_st (I := eI) (er_i2l (x_dk dn_403_0_3_ok 14 rfl)) (nx_un (fun _ => rfl))))))
  (e_Tok2
  (e_Tok2
  (e_Lok (ld_aload_n_0 (x_dk dn_403_0_3_ok 15 rfl)))
  (e_Lok (lk_12_52g ho_403 (x_dk dn_403_0_3_ok 16 rfl))))
  (e_Tok2
  (e_Lok (ld_iload_4 (x_dk dn_403_0_3_ok 17 rfl)))
  (e_Lok (sm_iaload (x_dk dn_403_0_3_ok 18 rfl)))))))
  (e_Tok2
  (e_Tok2
  (e_Tok2
  (e_Lok (e_st (I := eI) (er_i2l (x_dk dn_403_0_3_ok 19 rfl)) (nx_un (fun _ => rfl))))
  (e_Tok2
  (e_Lok (lk_12_301 ho_403 (x_dk dn_403_0_3_ok 20 rfl)))
  (e_Lok (e_st (I := eI) (er_ifeq (off := 8) (tg := 165) (x_dk dn_403_0_3_ok 21 rfl) (by decide)) nx_if1))))
  (e_Tok2
  (e_Tok2
  (e_Lok (ld_iload_7 (x_dk dn_403_0_3_ok 22 rfl)))
  (e_Lok (e_st (I := eI) (er_ifeq (off := 7) (tg := 169) (x_dk dn_403_0_3_ok 23 rfl) (by decide)) nx_if1)))
  (e_Tok2
  (e_Lok (ps_iconst_1 (x_dk dn_403_0_3_ok 24 rfl)))
  (e_Lok (e_st (I := eI) (er_goto (off := 4) (tg := 170) (x_dk dn_403_1_0_ok 0 rfl) (by decide)) nx_goto)))))
  (e_Tok2
  (e_Tok2
  (e_Lok (ps_iconst_0 (x_dk dn_403_1_0_ok 1 rfl)))
  (e_Tok2
  (e_Lok (lk_12_765 ho_403 (x_dk dn_403_1_0_ok 2 rfl)))
  (e_Lok (e_st (I := eI) (er_iinc (i := 3) (n := 1) (x_dk dn_403_1_0_ok 3 rfl) (by decide +kernel) (by decide)) nx_inc))))
  (e_Tok2
  (e_Tok2
  (e_Lok (e_st (I := eI) (er_goto (off := (-164)) (tg := 12) (x_dk dn_403_1_0_ok 4 rfl) (by decide)) nx_goto))
  (e_Lok (e_st (I := eI) (er_iinc (i := 2) (n := 1) (x_dk dn_403_1_0_ok 5 rfl) (by decide +kernel) (by decide)) nx_inc)))
  (e_Tok2
  (e_Lok (e_st (I := eI) (er_goto (off := (-180)) (tg := 2) (x_dk dn_403_1_0_ok 6 rfl) (by decide)) nx_goto))
  (e_Lok (e_rt (I := eI) (k := 0) ⟨(x_dk dn_403_1_0_ok 7 rfl), rfl⟩)))))))
def te_403 : Nat → eE := (e_T 85 (e_T 41 te_403_0 te_403_27) (e_T 133 te_403_54 te_403_81))
theorem te_403_ok : ∀ pc, e_EOq eft cls elay eI n_403 pc (te_403 pc) := (e_Tok2 ((e_Tok2 (te_403_0_ok) (te_403_27_ok))) ((e_Tok2 (te_403_54_ok) (te_403_81_ok))))
end
