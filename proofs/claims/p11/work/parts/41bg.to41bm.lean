-- part 41bg
section
noncomputable section
theorem ho_397 : (xm_y n_397).cls = "RobotCellHouseModel" := rfl
def dn_397_0_0 : List (Nat × Instr × Nat) := [(0, .aload_n 0, 1), (1, .getfield 8, 3), (4, .iload_n 1, 1), (5, .invokestatic 294, 3), (8, .iconst 1, 1), (9, .iadd, 1), (10, .iaload, 1), (11, .istore_n 2, 1), (12, .iload_n 2, 1), (13, .ifCond .ge 5, 3), (16, .iconst 0, 1), (17, .ireturn, 1), (18, .aload_n 0, 1), (19, .iload_n 2, 1), (20, .iconst 0, 1), (21, .invokevirtual 777, 3), (24, .istore_n 3, 1), (25, .aload_n 0, 1), (26, .iload_n 2, 1), (27, .iconst 1, 1), (28, .invokevirtual 777, 3), (31, .istore 4, 2), (33, .aload_n 0, 1), (34, .getfield 8, 3), (37, .iload_n 1, 1)]
set_option maxRecDepth 20000 in
theorem dn_397_0_0_ok : dn_397_0_0.all (fun q => decide (decode (xm_b n_397) q.1 = .ok (q.2.1, q.2.2))) = true := xa_g_ok (by decide +kernel)
def dn_397_0_1 : List (Nat × Instr × Nat) := [(38, .invokestatic 294, 3), (41, .iconst 1, 1), (42, .iadd, 1), (43, .iconst (-1), 1), (44, .iastore, 1), (45, .iconst 0, 1), (46, .istore 5, 2), (48, .iconst 0, 1), (49, .istore 6, 2), (51, .iload 6, 2), (53, .aload_n 0, 1), (54, .getfield 276, 3), (57, .if_icmp .ge 156, 3), (60, .iload 5, 2), (62, .ifCond .ne 151, 3), (65, .iload_n 3, 1), (66, .aload_n 0, 1), (67, .getfield 86, 3), (70, .iload 6, 2), (72, .iaload, 1), (73, .isub, 1), (74, .istore 7, 2), (76, .iload 4, 2), (78, .aload_n 0, 1), (79, .getfield 89, 3)]
set_option maxRecDepth 20000 in
theorem dn_397_0_1_ok : dn_397_0_1.all (fun q => decide (decode (xm_b n_397) q.1 = .ok (q.2.1, q.2.2))) = true := xa_g_ok (by decide +kernel)
def dn_397_0_2 : List (Nat × Instr × Nat) := [(82, .iload 6, 2), (84, .iaload, 1), (85, .isub, 1), (86, .istore 8, 2), (88, .aload_n 0, 1), (89, .getfield 92, 3), (92, .iload 6, 2), (94, .iaload, 1), (95, .iconst 2, 1), (96, .irem, 1), (97, .ifCond .ne 8, 3), (100, .iload 7, 2), (102, .goto 5, 3), (105, .iload 8, 2), (107, .istore 9, 2), (109, .aload_n 0, 1), (110, .getfield 92, 3), (113, .iload 6, 2), (115, .iaload, 1), (116, .iconst 2, 1), (117, .irem, 1), (118, .ifCond .ne 8, 3), (121, .iload 8, 2), (123, .goto 5, 3), (126, .iload 7, 2)]
set_option maxRecDepth 20000 in
theorem dn_397_0_2_ok : dn_397_0_2.all (fun q => decide (decode (xm_b n_397) q.1 = .ok (q.2.1, q.2.2))) = true := xa_g_ok (by decide +kernel)
def dn_397_0_3 : List (Nat × Instr × Nat) := [(128, .istore 10, 2), (130, .aload_n 0, 1), (131, .getfield 92, 3), (134, .iload 6, 2), (136, .iaload, 1), (137, .iconst 2, 1), (138, .if_icmp .ge 8, 3), (141, .iload 9, 2), (143, .goto 6, 3), (146, .iload 9, 2), (148, .ineg, 1), (149, .istore 9, 2), (151, .iload 9, 2), (153, .i2l, 1), (154, .lconst 0, 1), (155, .aload_n 0, 1), (156, .getfield 95, 3), (159, .iload 6, 2), (161, .iaload, 1), (162, .i2l, 1), (163, .invokestatic 301, 3), (166, .ifCond .eq 41, 3), (169, .iload 10, 2), (171, .i2l, 1), (172, .aload_n 0, 1)]
set_option maxRecDepth 20000 in
theorem dn_397_0_3_ok : dn_397_0_3.all (fun q => decide (decode (xm_b n_397) q.1 = .ok (q.2.1, q.2.2))) = true := xa_g_ok (by decide +kernel)
def dn_397_1_0 : List (Nat × Instr × Nat) := [(173, .getfield 101, 3), (176, .iload 6, 2), (178, .iaload, 1), (179, .ineg, 1), (180, .i2l, 1), (181, .aload_n 0, 1), (182, .getfield 101, 3), (185, .iload 6, 2), (187, .iaload, 1), (188, .i2l, 1), (189, .invokestatic 301, 3), (192, .ifCond .eq 15, 3), (195, .iconst 1, 1), (196, .istore 5, 2), (198, .aload_n 0, 1), (199, .iload_n 2, 1), (200, .iload 6, 2), (202, .iload 9, 2), (204, .invokevirtual 354, 3), (207, .iinc 6 1, 3), (210, .goto (-159), 3), (213, .iload 5, 2), (215, .ifCond .ne 11, 3), (218, .aload_n 0, 1), (219, .iload_n 2, 1)]
set_option maxRecDepth 20000 in
theorem dn_397_1_0_ok : dn_397_1_0.all (fun q => decide (decode (xm_b n_397) q.1 = .ok (q.2.1, q.2.2))) = true := xa_g_ok (by decide +kernel)
def dn_397_1_1 : List (Nat × Instr × Nat) := [(220, .iload_n 3, 1), (221, .iload 4, 2), (223, .invokevirtual 358, 3), (226, .aload_n 0, 1), (227, .iconst (-1), 1), (228, .invokevirtual 762, 3), (231, .aload_n 0, 1), (232, .bipush 7, 2), (234, .iload_n 1, 1), (235, .iload_n 2, 1), (236, .invokevirtual 693, 3), (239, .iconst 1, 1), (240, .ireturn, 1)]
set_option maxRecDepth 20000 in
theorem dn_397_1_1_ok : dn_397_1_1.all (fun q => decide (decode (xm_b n_397) q.1 = .ok (q.2.1, q.2.2))) = true := xa_g_ok (by decide +kernel)
def te_397_0 : Nat → eE := (e_T 24 (e_T 11 (e_T 5 (e_T 1 (e_T 0 (e_L 0 (0, ei_load 0 2 1, 0, 0)) (e_L 1 (0, ei_getf eft elay 12 0 4, 0, 0))) (e_T 4 (e_L 4 (0, ei_load 1 0 5, 0, 0)) (e_L 5 (2, e_nof, 268, 1)))) (e_T 9 (e_T 8 (e_L 8 (0, ei_push (0, 1) 9, 0, 0)) (e_L 9 (0, ei_bin eF_add 10, 0, 0))) (e_T 10 (e_L 10 (0, ei_ald elay false 11, 0, 0)) (e_L 11 (0, ei_stor 2 0 12, 0, 0))))) (e_T 17 (e_T 13 (e_T 12 (e_L 12 (0, ei_load 2 0 13, 0, 0)) (e_L 13 (0, ei_if1 3 18 16, 0, 0))) (e_T 16 (e_L 16 (0, ei_push (0, 0) 17, 0, 0)) (e_L 17 (1, e_nof, 4, 0)))) (e_T 19 (e_T 18 (e_L 18 (0, ei_load 0 2 19, 0, 0)) (e_L 19 (0, ei_load 2 0 20, 0, 0))) (e_T 20 (e_L 20 (0, ei_push (0, 0) 21, 0, 0)) (e_T 21 (e_L 21 (2, e_nof, 395, 3)) (e_L 24 (0, ei_stor 3 0 25, 0, 0))))))) (e_T 37 (e_T 28 (e_T 26 (e_T 25 (e_L 25 (0, ei_load 0 2 26, 0, 0)) (e_L 26 (0, ei_load 2 0 27, 0, 0))) (e_T 27 (e_L 27 (0, ei_push (0, 1) 28, 0, 0)) (e_L 28 (2, e_nof, 395, 3)))) (e_T 33 (e_T 31 (e_L 31 (0, ei_stor 4 0 33, 0, 0)) (e_L 33 (0, ei_load 0 2 34, 0, 0))) (e_T 34 (e_L 34 (0, ei_getf eft elay 12 0 37, 0, 0)) (e_L 37 (0, ei_load 1 0 38, 0, 0))))) (e_T 43 (e_T 41 (e_T 38 (e_L 38 (2, e_nof, 268, 1)) (e_L 41 (0, ei_push (0, 1) 42, 0, 0))) (e_T 42 (e_L 42 (0, ei_bin eF_add 43, 0, 0)) (e_L 43 (0, ei_push (0, (-1)) 44, 0, 0)))) (e_T 45 (e_T 44 (e_L 44 (0, ei_ast elay false 45, 0, 0)) (e_L 45 (0, ei_push (0, 0) 46, 0, 0))) (e_T 46 (e_L 46 (0, ei_stor 5 0 48, 0, 0)) (e_T 48 (e_L 48 (0, ei_push (0, 0) 49, 0, 0)) (e_L 49 (0, ei_stor 6 0 51, 0, 0))))))))
set_option maxRecDepth 20000 in
set_option maxHeartbeats 4000000 in
theorem te_397_0_ok : ∀ pc, e_EOq eft cls elay eI n_397 pc (te_397_0 pc) :=
  (e_Tok2
  (e_Tok2
  (e_Tok2
  (e_Tok2
  (e_Tok2
  (e_Lok (ld_aload_n_0 (x_dk dn_397_0_0_ok 0 rfl)))
  (e_Lok (lk_12_8g ho_397 (x_dk dn_397_0_0_ok 1 rfl))))
  (e_Tok2
  (e_Lok (ld_iload_n_1 (x_dk dn_397_0_0_ok 2 rfl)))
  (e_Lok (lk_12_294 ho_397 (x_dk dn_397_0_0_ok 3 rfl)))))
  (e_Tok2
  (e_Tok2
  (e_Lok (ps_iconst_1 (x_dk dn_397_0_0_ok 4 rfl)))
  (e_Lok (sm_iadd (x_dk dn_397_0_0_ok 5 rfl))))
  (e_Tok2
  (e_Lok (sm_iaload (x_dk dn_397_0_0_ok 6 rfl)))
  (e_Lok (e_st (I := eI) (er_istore_n (i := 2) (x_dk dn_397_0_0_ok 7 rfl) (by decide +kernel)) nx_stor)))))
  (e_Tok2
  (e_Tok2
  (e_Tok2
  (e_Lok (ld_iload_n_2 (x_dk dn_397_0_0_ok 8 rfl)))
  (e_Lok (e_st (I := eI) (er_ifge (off := 5) (tg := 18) (x_dk dn_397_0_0_ok 9 rfl) (by decide)) nx_if1)))
  (e_Tok2
  (e_Lok (ps_iconst_0 (x_dk dn_397_0_0_ok 10 rfl)))
  (e_Lok (e_rt (I := eI) (k := 4) ⟨(x_dk dn_397_0_0_ok 11 rfl), rfl⟩))))
  (e_Tok2
  (e_Tok2
  (e_Lok (ld_aload_n_0 (x_dk dn_397_0_0_ok 12 rfl)))
  (e_Lok (ld_iload_n_2 (x_dk dn_397_0_0_ok 13 rfl))))
  (e_Tok2
  (e_Lok (ps_iconst_0 (x_dk dn_397_0_0_ok 14 rfl)))
  (e_Tok2
  (e_Lok (lk_12_777 ho_397 (x_dk dn_397_0_0_ok 15 rfl)))
  (e_Lok (e_st (I := eI) (er_istore_n (i := 3) (x_dk dn_397_0_0_ok 16 rfl) (by decide +kernel)) nx_stor)))))))
  (e_Tok2
  (e_Tok2
  (e_Tok2
  (e_Tok2
  (e_Lok (ld_aload_n_0 (x_dk dn_397_0_0_ok 17 rfl)))
  (e_Lok (ld_iload_n_2 (x_dk dn_397_0_0_ok 18 rfl))))
  (e_Tok2
  (e_Lok (ps_iconst_1 (x_dk dn_397_0_0_ok 19 rfl)))
  (e_Lok (lk_12_777 ho_397 (x_dk dn_397_0_0_ok 20 rfl)))))
  (e_Tok2
  (e_Tok2
  (e_Lok (e_st (I := eI) (er_istore (i := 4) (x_dk dn_397_0_0_ok 21 rfl) (by decide +kernel)) nx_stor))
  (e_Lok (ld_aload_n_0 (x_dk dn_397_0_0_ok 22 rfl))))
  (e_Tok2
  (e_Lok (lk_12_8g ho_397 (x_dk dn_397_0_0_ok 23 rfl)))
  (e_Lok (ld_iload_n_1 (x_dk dn_397_0_0_ok 24 rfl))))))
  (e_Tok2
  (e_Tok2
  (e_Tok2
  (e_Lok (lk_12_294 ho_397 (x_dk dn_397_0_1_ok 0 rfl)))
  (e_Lok (ps_iconst_1 (x_dk dn_397_0_1_ok 1 rfl))))
  (e_Tok2
  (e_Lok (sm_iadd (x_dk dn_397_0_1_ok 2 rfl)))
  (e_Lok (ps_iconst_m1 (x_dk dn_397_0_1_ok 3 rfl)))))
  (e_Tok2
  (e_Tok2
  (e_Lok (sm_iastore (x_dk dn_397_0_1_ok 4 rfl)))
  (e_Lok (ps_iconst_0 (x_dk dn_397_0_1_ok 5 rfl))))
  (e_Tok2
  (e_Lok (e_st (I := eI) (er_istore (i := 5) (x_dk dn_397_0_1_ok 6 rfl) (by decide +kernel)) nx_stor))
  (e_Tok2
  (e_Lok (ps_iconst_0 (x_dk dn_397_0_1_ok 7 rfl)))
  (e_Lok (e_st (I := eI) (er_istore (i := 6) (x_dk dn_397_0_1_ok 8 rfl) (by decide +kernel)) nx_stor))))))))
def te_397_34 : Nat → eE := (e_T 82 (e_T 66 (e_T 57 (e_T 53 (e_T 51 (e_L 51 (0, ei_load 6 0 53, 0, 0)) (e_L 53 (0, ei_load 0 2 54, 0, 0))) (e_T 54 (e_L 54 (0, ei_getf eft elay 12 30 57, 0, 0)) (e_L 57 (0, ei_if2 3 213 60, 0, 0)))) (e_T 62 (e_T 60 (e_L 60 (0, ei_load 5 0 62, 0, 0)) (e_L 62 (0, ei_if1 1 213 65, 0, 0))) (e_T 65 (e_L 65 (0, ei_load 3 0 66, 0, 0)) (e_L 66 (0, ei_load 0 2 67, 0, 0))))) (e_T 73 (e_T 70 (e_T 67 (e_L 67 (0, ei_getf eft elay 12 31 70, 0, 0)) (e_L 70 (0, ei_load 6 0 72, 0, 0))) (e_T 72 (e_L 72 (0, ei_ald elay false 73, 0, 0)) (e_L 73 (0, ei_bin eF_sub 74, 0, 0)))) (e_T 76 (e_T 74 (e_L 74 (0, ei_stor 7 0 76, 0, 0)) (e_L 76 (0, ei_load 4 0 78, 0, 0))) (e_T 78 (e_L 78 (0, ei_load 0 2 79, 0, 0)) (e_T 79 (e_L 79 (0, ei_getf eft elay 12 32 82, 0, 0)) (e_L 82 (0, ei_load 6 0 84, 0, 0))))))) (e_T 96 (e_T 88 (e_T 85 (e_T 84 (e_L 84 (0, ei_ald elay false 85, 0, 0)) (e_L 85 (0, ei_bin eF_sub 86, 0, 0))) (e_T 86 (e_L 86 (0, ei_stor 8 0 88, 0, 0)) (e_L 88 (0, ei_load 0 2 89, 0, 0)))) (e_T 92 (e_T 89 (e_L 89 (0, ei_getf eft elay 12 33 92, 0, 0)) (e_L 92 (0, ei_load 6 0 94, 0, 0))) (e_T 94 (e_L 94 (0, ei_ald elay false 95, 0, 0)) (e_T 95 (e_L 95 (0, ei_push (0, 2) 96, 0, 0)) (e_L 96 (0, ei_bin eF_rem 97, 0, 0)))))) (e_T 105 (e_T 100 (e_T 97 (e_L 97 (0, ei_if1 1 105 100, 0, 0)) (e_L 100 (0, ei_load 7 0 102, 0, 0))) (e_T 102 (e_L 102 (0, ei_goto 107, 0, 0)) (e_L 105 (0, ei_load 8 0 107, 0, 0)))) (e_T 109 (e_T 107 (e_L 107 (0, ei_stor 9 0 109, 0, 0)) (e_L 109 (0, ei_load 0 2 110, 0, 0))) (e_T 110 (e_L 110 (0, ei_getf eft elay 12 33 113, 0, 0)) (e_T 113 (e_L 113 (0, ei_load 6 0 115, 0, 0)) (e_L 115 (0, ei_ald elay false 116, 0, 0))))))))
set_option maxRecDepth 20000 in
set_option maxHeartbeats 4000000 in
theorem te_397_34_ok : ∀ pc, e_EOq eft cls elay eI n_397 pc (te_397_34 pc) :=
  (e_Tok2
  (e_Tok2
  (e_Tok2
  (e_Tok2
  (e_Tok2
  (e_Lok (ld_iload_6 (x_dk dn_397_0_1_ok 9 rfl)))
  (e_Lok (ld_aload_n_0 (x_dk dn_397_0_1_ok 10 rfl))))
  (e_Tok2
  (e_Lok (lk_12_276g ho_397 (x_dk dn_397_0_1_ok 11 rfl)))
  (e_Lok (e_st (I := eI) (er_icmpge (off := 156) (tg := 213) (x_dk dn_397_0_1_ok 12 rfl) (by decide)) nx_if2))))
  (e_Tok2
  (e_Tok2
  (e_Lok (ld_iload_5 (x_dk dn_397_0_1_ok 13 rfl)))
  (e_Lok (e_st (I := eI) (er_ifne (off := 151) (tg := 213) (x_dk dn_397_0_1_ok 14 rfl) (by decide)) nx_if1)))
  (e_Tok2
  (e_Lok (ld_iload_n_3 (x_dk dn_397_0_1_ok 15 rfl)))
  (e_Lok (ld_aload_n_0 (x_dk dn_397_0_1_ok 16 rfl))))))
  (e_Tok2
  (e_Tok2
  (e_Tok2
  (e_Lok (lk_12_86g ho_397 (x_dk dn_397_0_1_ok 17 rfl)))
  (e_Lok (ld_iload_6 (x_dk dn_397_0_1_ok 18 rfl))))
  (e_Tok2
  (e_Lok (sm_iaload (x_dk dn_397_0_1_ok 19 rfl)))
  (e_Lok (sm_isub (x_dk dn_397_0_1_ok 20 rfl)))))
  (e_Tok2
  (e_Tok2
  (e_Lok (e_st (I := eI) (er_istore (i := 7) (x_dk dn_397_0_1_ok 21 rfl) (by decide +kernel)) nx_stor))
  (e_Lok (ld_iload_4 (x_dk dn_397_0_1_ok 22 rfl))))
  (e_Tok2
  (e_Lok (ld_aload_n_0 (x_dk dn_397_0_1_ok 23 rfl)))
  (e_Tok2
  (e_Lok (lk_12_89g ho_397 (x_dk dn_397_0_1_ok 24 rfl)))
  (e_Lok (ld_iload_6 (x_dk dn_397_0_2_ok 0 rfl))))))))
  (e_Tok2
  (e_Tok2
  (e_Tok2
  (e_Tok2
  (e_Lok (sm_iaload (x_dk dn_397_0_2_ok 1 rfl)))
  (e_Lok (sm_isub (x_dk dn_397_0_2_ok 2 rfl))))
  (e_Tok2
  (e_Lok (e_st (I := eI) (er_istore (i := 8) (x_dk dn_397_0_2_ok 3 rfl) (by decide +kernel)) nx_stor))
  (e_Lok (ld_aload_n_0 (x_dk dn_397_0_2_ok 4 rfl)))))
  (e_Tok2
  (e_Tok2
  (e_Lok (lk_12_92g ho_397 (x_dk dn_397_0_2_ok 5 rfl)))
  (e_Lok (ld_iload_6 (x_dk dn_397_0_2_ok 6 rfl))))
  (e_Tok2
  (e_Lok (sm_iaload (x_dk dn_397_0_2_ok 7 rfl)))
  (e_Tok2
  (e_Lok (ps_iconst_2 (x_dk dn_397_0_2_ok 8 rfl)))
  (e_Lok (e_st (I := eI) (er_irem (x_dk dn_397_0_2_ok 9 rfl)) nx_bin))))))
  (e_Tok2
  (e_Tok2
  (e_Tok2
  (e_Lok (e_st (I := eI) (er_ifne (off := 8) (tg := 105) (x_dk dn_397_0_2_ok 10 rfl) (by decide)) nx_if1))
  (e_Lok (ld_iload_7 (x_dk dn_397_0_2_ok 11 rfl))))
  (e_Tok2
  (e_Lok (e_st (I := eI) (er_goto (off := 5) (tg := 107) (x_dk dn_397_0_2_ok 12 rfl) (by decide)) nx_goto))
  (e_Lok (ld_iload_8 (x_dk dn_397_0_2_ok 13 rfl)))))
  (e_Tok2
  (e_Tok2
  (e_Lok (e_st (I := eI) (er_istore (i := 9) (x_dk dn_397_0_2_ok 14 rfl) (by decide +kernel)) nx_stor))
  (e_Lok (ld_aload_n_0 (x_dk dn_397_0_2_ok 15 rfl))))
  (e_Tok2
  (e_Lok (lk_12_92g ho_397 (x_dk dn_397_0_2_ok 16 rfl)))
  (e_Tok2
  (e_Lok (ld_iload_6 (x_dk dn_397_0_2_ok 17 rfl)))
  (e_Lok (sm_iaload (x_dk dn_397_0_2_ok 18 rfl)))))))))
def te_397_69 : Nat → eE := (e_T 148 (e_T 130 (e_T 121 (e_T 117 (e_T 116 (e_L 116 (0, ei_push (0, 2) 117, 0, 0)) (e_L 117 (0, ei_bin eF_rem 118, 0, 0))) (e_T 118 (e_L 118 (0, ei_if1 1 126 121, 0, 0)) (e_L 121 (0, ei_load 8 0 123, 0, 0)))) (e_T 126 (e_T 123 (e_L 123 (0, ei_goto 128, 0, 0)) (e_L 126 (0, ei_load 7 0 128, 0, 0))) (e_T 128 (e_L 128 (0, ei_stor 10 0 130, 0, 0)) (e_L 130 (0, ei_load 0 2 131, 0, 0))))) (e_T 137 (e_T 134 (e_T 131 (e_L 131 (0, ei_getf eft elay 12 33 134, 0, 0)) (e_L 134 (0, ei_load 6 0 136, 0, 0))) (e_T 136 (e_L 136 (0, ei_ald elay false 137, 0, 0)) (e_L 137 (0, ei_push (0, 2) 138, 0, 0)))) (e_T 141 (e_T 138 (e_L 138 (0, ei_if2 3 146 141, 0, 0)) (e_L 141 (0, ei_load 9 0 143, 0, 0))) (e_T 143 (e_L 143 (0, ei_goto 149, 0, 0)) (e_T 146 (e_L 146 (0, ei_load 9 0 148, 0, 0)) (e_L 148 (0, ei_un (fun x => (0, e32 (-x))) 149, 0, 0))))))) (e_T 161 (e_T 154 (e_T 151 (e_T 149 (e_L 149 (0, ei_stor 9 0 151, 0, 0)) (e_L 151 (0, ei_load 9 0 153, 0, 0))) (e_T 153 (e_L 153 (0, ei_un (fun x => (4, x)) 154, 0, 0)) (e_L 154 (0, ei_push (4, 0) 155, 0, 0)))) (e_T 156 (e_T 155 (e_L 155 (0, ei_load 0 2 156, 0, 0)) (e_L 156 (0, ei_getf eft elay 12 34 159, 0, 0))) (e_T 159 (e_L 159 (0, ei_load 6 0 161, 0, 0)) (e_L 161 (0, ei_ald elay false 162, 0, 0))))) (e_T 169 (e_T 163 (e_T 162 (e_L 162 (0, ei_un (fun x => (4, x)) 163, 0, 0)) (e_L 163 (2, e_nof, 266, 3))) (e_T 166 (e_L 166 (0, ei_if1 0 207 169, 0, 0)) (e_L 169 (0, ei_load 10 0 171, 0, 0)))) (e_T 172 (e_T 171 (e_L 171 (0, ei_un (fun x => (4, x)) 172, 0, 0)) (e_L 172 (0, ei_load 0 2 173, 0, 0))) (e_T 173 (e_L 173 (0, ei_getf eft elay 12 36 176, 0, 0)) (e_T 176 (e_L 176 (0, ei_load 6 0 178, 0, 0)) (e_L 178 (0, ei_ald elay false 179, 0, 0))))))))
set_option maxRecDepth 20000 in
set_option maxHeartbeats 4000000 in
theorem te_397_69_ok : ∀ pc, e_EOq eft cls elay eI n_397 pc (te_397_69 pc) :=
  (e_Tok2
  (e_Tok2
  (e_Tok2
  (e_Tok2
  (e_Tok2
  (e_Lok (ps_iconst_2 (x_dk dn_397_0_2_ok 19 rfl)))
  (e_Lok (e_st (I := eI) (er_irem (x_dk dn_397_0_2_ok 20 rfl)) nx_bin)))
  (e_Tok2
  (e_Lok (e_st (I := eI) (er_ifne (off := 8) (tg := 126) (x_dk dn_397_0_2_ok 21 rfl) (by decide)) nx_if1))
  (e_Lok (ld_iload_8 (x_dk dn_397_0_2_ok 22 rfl)))))
  (e_Tok2
  (e_Tok2
  (e_Lok (e_st (I := eI) (er_goto (off := 5) (tg := 128) (x_dk dn_397_0_2_ok 23 rfl) (by decide)) nx_goto))
  (e_Lok (ld_iload_7 (x_dk dn_397_0_2_ok 24 rfl))))
  (e_Tok2
  (e_Lok (e_st (I := eI) (er_istore (i := 10) (x_dk dn_397_0_3_ok 0 rfl) (by decide +kernel)) nx_stor))
  (e_Lok (ld_aload_n_0 (x_dk dn_397_0_3_ok 1 rfl))))))
  (e_Tok2
  (e_Tok2
  (e_Tok2
  (e_Lok (lk_12_92g ho_397 (x_dk dn_397_0_3_ok 2 rfl)))
  (e_Lok (ld_iload_6 (x_dk dn_397_0_3_ok 3 rfl))))
  (e_Tok2
  (e_Lok (sm_iaload (x_dk dn_397_0_3_ok 4 rfl)))
  (e_Lok (ps_iconst_2 (x_dk dn_397_0_3_ok 5 rfl)))))
  (e_Tok2
  (e_Tok2
  (e_Lok (e_st (I := eI) (er_icmpge (off := 8) (tg := 146) (x_dk dn_397_0_3_ok 6 rfl) (by decide)) nx_if2))
  (e_Lok (ld_iload_9 (x_dk dn_397_0_3_ok 7 rfl))))
  (e_Tok2
  (e_Lok (e_st (I := eI) (er_goto (off := 6) (tg := 149) (x_dk dn_397_0_3_ok 8 rfl) (by decide)) nx_goto))
  (e_Tok2
  (e_Lok (ld_iload_9 (x_dk dn_397_0_3_ok 9 rfl)))
  (e_Lok (e_st (I := eI) (er_ineg (x_dk dn_397_0_3_ok 10 rfl)) (nx_un (fun _ => rfl)))))))))
  (e_Tok2
  (e_Tok2
  (e_Tok2
  (e_Tok2
  (e_Lok (e_st (I := eI) (er_istore (i := 9) (x_dk dn_397_0_3_ok 11 rfl) (by decide +kernel)) nx_stor))
  (e_Lok (ld_iload_9 (x_dk dn_397_0_3_ok 12 rfl))))
  (e_Tok2
  (e_Lok (e_st (I := eI) (er_i2l (x_dk dn_397_0_3_ok 13 rfl)) (nx_un (fun _ => rfl))))
  (e_Lok (ps_lconst_0 (x_dk dn_397_0_3_ok 14 rfl)))))
  (e_Tok2
  (e_Tok2
  (e_Lok (ld_aload_n_0 (x_dk dn_397_0_3_ok 15 rfl)))
  (e_Lok (lk_12_95g ho_397 (x_dk dn_397_0_3_ok 16 rfl))))
  (e_Tok2
  (e_Lok (ld_iload_6 (x_dk dn_397_0_3_ok 17 rfl)))
  (e_Lok (sm_iaload (x_dk dn_397_0_3_ok 18 rfl))))))
  (e_Tok2
  (e_Tok2
  (e_Tok2
  (e_Lok (e_st (I := eI) (er_i2l (x_dk dn_397_0_3_ok 19 rfl)) (nx_un (fun _ => rfl))))
  (e_Lok (lk_12_301 ho_397 (x_dk dn_397_0_3_ok 20 rfl))))
  (e_Tok2
  (e_Lok (e_st (I := eI) (er_ifeq (off := 41) (tg := 207) (x_dk dn_397_0_3_ok 21 rfl) (by decide)) nx_if1))
  (e_Lok (ld_iload_10 (x_dk dn_397_0_3_ok 22 rfl)))))
  (e_Tok2
  (e_Tok2
  (e_Lok (e_st (I := eI) (er_i2l (x_dk dn_397_0_3_ok 23 rfl)) (nx_un (fun _ => rfl))))
  (e_Lok (ld_aload_n_0 (x_dk dn_397_0_3_ok 24 rfl))))
  (e_Tok2
  (e_Lok (lk_12_101g ho_397 (x_dk dn_397_1_0_ok 0 rfl)))
  (e_Tok2
  (e_Lok (ld_iload_6 (x_dk dn_397_1_0_ok 1 rfl)))
  (e_Lok (sm_iaload (x_dk dn_397_1_0_ok 2 rfl)))))))))
def te_397_103 : Nat → eE := (e_T 207 (e_T 189 (e_T 182 (e_T 180 (e_T 179 (e_L 179 (0, ei_un (fun x => (0, e32 (-x))) 180, 0, 0)) (e_L 180 (0, ei_un (fun x => (4, x)) 181, 0, 0))) (e_T 181 (e_L 181 (0, ei_load 0 2 182, 0, 0)) (e_L 182 (0, ei_getf eft elay 12 36 185, 0, 0)))) (e_T 187 (e_T 185 (e_L 185 (0, ei_load 6 0 187, 0, 0)) (e_L 187 (0, ei_ald elay false 188, 0, 0))) (e_T 188 (e_L 188 (0, ei_un (fun x => (4, x)) 189, 0, 0)) (e_L 189 (2, e_nof, 266, 3))))) (e_T 198 (e_T 195 (e_T 192 (e_L 192 (0, ei_if1 0 207 195, 0, 0)) (e_L 195 (0, ei_push (0, 1) 196, 0, 0))) (e_T 196 (e_L 196 (0, ei_stor 5 0 198, 0, 0)) (e_L 198 (0, ei_load 0 2 199, 0, 0)))) (e_T 200 (e_T 199 (e_L 199 (0, ei_load 2 0 200, 0, 0)) (e_L 200 (0, ei_load 6 0 202, 0, 0))) (e_T 202 (e_L 202 (0, ei_load 9 0 204, 0, 0)) (e_T 204 (e_L 204 (2, e_nof, 393, 4)) (e_L 207 (0, ei_inc 6 1 210, 0, 0))))))) (e_T 226 (e_T 218 (e_T 213 (e_T 210 (e_L 210 (0, ei_goto 51, 0, 0)) (e_L 213 (0, ei_load 5 0 215, 0, 0))) (e_T 215 (e_L 215 (0, ei_if1 1 226 218, 0, 0)) (e_L 218 (0, ei_load 0 2 219, 0, 0)))) (e_T 220 (e_T 219 (e_L 219 (0, ei_load 2 0 220, 0, 0)) (e_L 220 (0, ei_load 3 0 221, 0, 0))) (e_T 221 (e_L 221 (0, ei_load 4 0 223, 0, 0)) (e_T 223 (e_L 223 (2, e_nof, 394, 4)) (e_L 226 (0, ei_load 0 2 227, 0, 0)))))) (e_T 232 (e_T 228 (e_T 227 (e_L 227 (0, ei_push (0, (-1)) 228, 0, 0)) (e_L 228 (2, e_nof, 390, 2))) (e_T 231 (e_L 231 (0, ei_load 0 2 232, 0, 0)) (e_L 232 (0, ei_push (0, 7) 234, 0, 0)))) (e_T 235 (e_T 234 (e_L 234 (0, ei_load 1 0 235, 0, 0)) (e_L 235 (0, ei_load 2 0 236, 0, 0))) (e_T 236 (e_L 236 (2, e_nof, 319, 4)) (e_T 239 (e_L 239 (0, ei_push (0, 1) 240, 0, 0)) (e_L 240 (1, e_nof, 4, 0))))))))
set_option maxRecDepth 20000 in
set_option maxHeartbeats 4000000 in
theorem te_397_103_ok : ∀ pc, e_EOq eft cls elay eI n_397 pc (te_397_103 pc) :=
  (e_Tok2
  (e_Tok2
  (e_Tok2
  (e_Tok2
  (e_Tok2
  (e_Lok (e_st (I := eI) (er_ineg (x_dk dn_397_1_0_ok 3 rfl)) (nx_un (fun _ => rfl))))
  (e_Lok (e_st (I := eI) (er_i2l (x_dk dn_397_1_0_ok 4 rfl)) (nx_un (fun _ => rfl)))))
  (e_Tok2
  (e_Lok (ld_aload_n_0 (x_dk dn_397_1_0_ok 5 rfl)))
  (e_Lok (lk_12_101g ho_397 (x_dk dn_397_1_0_ok 6 rfl)))))
  (e_Tok2
  (e_Tok2
  (e_Lok (ld_iload_6 (x_dk dn_397_1_0_ok 7 rfl)))
  (e_Lok (sm_iaload (x_dk dn_397_1_0_ok 8 rfl))))
  (e_Tok2
  (e_Lok (e_st (I := eI) (er_i2l (x_dk dn_397_1_0_ok 9 rfl)) (nx_un (fun _ => rfl))))
  (e_Lok (lk_12_301 ho_397 (x_dk dn_397_1_0_ok 10 rfl))))))
  (e_Tok2
  (e_Tok2
  (e_Tok2
  (e_Lok (e_st (I := eI) (er_ifeq (off := 15) (tg := 207) (x_dk dn_397_1_0_ok 11 rfl) (by decide)) nx_if1))
  (e_Lok (ps_iconst_1 (x_dk dn_397_1_0_ok 12 rfl))))
  (e_Tok2
  (e_Lok (e_st (I := eI) (er_istore (i := 5) (x_dk dn_397_1_0_ok 13 rfl) (by decide +kernel)) nx_stor))
  (e_Lok (ld_aload_n_0 (x_dk dn_397_1_0_ok 14 rfl)))))
  (e_Tok2
  (e_Tok2
  (e_Lok (ld_iload_n_2 (x_dk dn_397_1_0_ok 15 rfl)))
  (e_Lok (ld_iload_6 (x_dk dn_397_1_0_ok 16 rfl))))
  (e_Tok2
  (e_Lok (ld_iload_9 (x_dk dn_397_1_0_ok 17 rfl)))
  (e_Tok2
  (e_Lok (lk_12_354 ho_397 (x_dk dn_397_1_0_ok 18 rfl)))
  (e_Lok (e_st (I := eI) (er_iinc (i := 6) (n := 1) (x_dk dn_397_1_0_ok 19 rfl) (by decide +kernel) (by decide)) nx_inc)))))))
  (e_Tok2
  (e_Tok2
  (e_Tok2
  (e_Tok2
  (e_Lok (e_st (I := eI) (er_goto (off := (-159)) (tg := 51) (x_dk dn_397_1_0_ok 20 rfl) (by decide)) nx_goto))
  (e_Lok (ld_iload_5 (x_dk dn_397_1_0_ok 21 rfl))))
  (e_Tok2
  (e_Lok (e_st (I := eI) (er_ifne (off := 11) (tg := 226) (x_dk dn_397_1_0_ok 22 rfl) (by decide)) nx_if1))
  (e_Lok (ld_aload_n_0 (x_dk dn_397_1_0_ok 23 rfl)))))
  (e_Tok2
  (e_Tok2
  (e_Lok (ld_iload_n_2 (x_dk dn_397_1_0_ok 24 rfl)))
  (e_Lok (ld_iload_n_3 (x_dk dn_397_1_1_ok 0 rfl))))
  (e_Tok2
  (e_Lok (ld_iload_4 (x_dk dn_397_1_1_ok 1 rfl)))
  (e_Tok2
  (e_Lok (lk_12_358 ho_397 (x_dk dn_397_1_1_ok 2 rfl)))
  (e_Lok (ld_aload_n_0 (x_dk dn_397_1_1_ok 3 rfl)))))))
  (e_Tok2
  (e_Tok2
  (e_Tok2
  (e_Lok (ps_iconst_m1 (x_dk dn_397_1_1_ok 4 rfl)))
  (e_Lok (lk_12_762 ho_397 (x_dk dn_397_1_1_ok 5 rfl))))
  (e_Tok2
  (e_Lok (ld_aload_n_0 (x_dk dn_397_1_1_ok 6 rfl)))
  (e_Lok (ps_bipush_7 (x_dk dn_397_1_1_ok 7 rfl)))))
  (e_Tok2
  (e_Tok2
  (e_Lok (ld_iload_n_1 (x_dk dn_397_1_1_ok 8 rfl)))
  (e_Lok (ld_iload_n_2 (x_dk dn_397_1_1_ok 9 rfl))))
  (e_Tok2
  (e_Lok (lk_12_693 ho_397 (x_dk dn_397_1_1_ok 10 rfl)))
  (e_Tok2
  (e_Lok (ps_iconst_1 (x_dk dn_397_1_1_ok 11 rfl)))
  (e_Lok (e_rt (I := eI) (k := 4) ⟨(x_dk dn_397_1_1_ok 12 rfl), rfl⟩))))))))
def te_397 : Nat → eE := (e_T 115 (e_T 49 te_397_0 te_397_34) (e_T 178 te_397_69 te_397_103))
theorem te_397_ok : ∀ pc, e_EOq eft cls elay eI n_397 pc (te_397 pc) := (e_Tok2 ((e_Tok2 (te_397_0_ok) (te_397_34_ok))) ((e_Tok2 (te_397_69_ok) (te_397_103_ok))))
theorem ho_398 : (xm_y n_398).cls = "RobotCellHouseModel" := rfl
def dn_398_0_0 : List (Nat × Instr × Nat) := [(0, .sipush 20704, 3), (3, .bipush 33, 2), (5, .iload_n 1, 1), (6, .imul, 1), (7, .iadd, 1), (8, .istore_n 2, 1), (9, .iconst 0, 1), (10, .istore_n 3, 1), (11, .iconst 1, 1), (12, .istore 4, 2), (14, .iload 4, 2), (16, .aload_n 0, 1), (17, .getfield 8, 3), (20, .iload_n 2, 1), (21, .iaload, 1), (22, .if_icmp .gt 190, 3), (25, .aload_n 0, 1), (26, .getfield 8, 3), (29, .iload_n 2, 1), (30, .iload 4, 2), (32, .iadd, 1), (33, .iaload, 1), (34, .istore 5, 2), (36, .aload_n 0, 1), (37, .getfield 8, 3)]
set_option maxRecDepth 20000 in
theorem dn_398_0_0_ok : dn_398_0_0.all (fun q => decide (decode (xm_b n_398) q.1 = .ok (q.2.1, q.2.2))) = true := xa_g_ok (by decide +kernel)
def dn_398_0_1 : List (Nat × Instr × Nat) := [(40, .iload 5, 2), (42, .invokestatic 774, 3), (45, .iconst 3, 1), (46, .iadd, 1), (47, .iaload, 1), (48, .istore 6, 2), (50, .iload 6, 2), (52, .aload_n 0, 1), (53, .getfield 98, 3), (56, .iload_n 1, 1), (57, .iaload, 1), (58, .iadd, 1), (59, .aload_n 0, 1), (60, .getfield 95, 3), (63, .iload_n 1, 1), (64, .iaload, 1), (65, .if_icmp .ge 15, 3), (68, .iload 6, 2), (70, .aload_n 0, 1), (71, .getfield 98, 3), (74, .iload_n 1, 1), (75, .iaload, 1), (76, .iadd, 1), (77, .goto 9, 3), (80, .aload_n 0, 1)]
set_option maxRecDepth 20000 in
theorem dn_398_0_1_ok : dn_398_0_1.all (fun q => decide (decode (xm_b n_398) q.1 = .ok (q.2.1, q.2.2))) = true := xa_g_ok (by decide +kernel)
def dn_398_0_2 : List (Nat × Instr × Nat) := [(81, .getfield 95, 3), (84, .iload_n 1, 1), (85, .iaload, 1), (86, .istore 7, 2), (88, .iload 4, 2), (90, .iconst 1, 1), (91, .if_icmp .le 62, 3), (94, .aload_n 0, 1), (95, .getfield 8, 3), (98, .iload_n 2, 1), (99, .iload 4, 2), (101, .iadd, 1), (102, .iconst 1, 1), (103, .isub, 1), (104, .iaload, 1), (105, .istore 8, 2), (107, .aload_n 0, 1), (108, .getfield 8, 3), (111, .iload 8, 2), (113, .invokestatic 774, 3), (116, .iconst 3, 1), (117, .iadd, 1), (118, .iaload, 1), (119, .aload_n 0, 1), (120, .getfield 113, 3)]
set_option maxRecDepth 20000 in
theorem dn_398_0_2_ok : dn_398_0_2.all (fun q => decide (decode (xm_b n_398) q.1 = .ok (q.2.1, q.2.2))) = true := xa_g_ok (by decide +kernel)
def dn_398_0_3 : List (Nat × Instr × Nat) := [(123, .iload 8, 2), (125, .iaload, 1), (126, .isub, 1), (127, .aload_n 0, 1), (128, .getfield 113, 3), (131, .iload 5, 2), (133, .iaload, 1), (134, .isub, 1), (135, .istore 9, 2), (137, .iload 9, 2), (139, .iload 7, 2), (141, .if_icmp .ge 8, 3), (144, .iload 9, 2), (146, .goto 5, 3), (149, .iload 7, 2), (151, .istore 7, 2), (153, .iload 7, 2), (155, .iload 6, 2), (157, .if_icmp .le 8, 3), (160, .iload 7, 2), (162, .goto 5, 3), (165, .iload 6, 2), (167, .istore 6, 2), (169, .aload_n 0, 1), (170, .getfield 8, 3)]
set_option maxRecDepth 20000 in
theorem dn_398_0_3_ok : dn_398_0_3.all (fun q => decide (decode (xm_b n_398) q.1 = .ok (q.2.1, q.2.2))) = true := xa_g_ok (by decide +kernel)
def dn_398_1_0 : List (Nat × Instr × Nat) := [(173, .iload 5, 2), (175, .invokestatic 774, 3), (178, .iconst 3, 1), (179, .iadd, 1), (180, .iload 6, 2), (182, .iastore, 1), (183, .iload_n 3, 1), (184, .iload 6, 2), (186, .i2l, 1), (187, .aload_n 0, 1), (188, .getfield 107, 3), (191, .iload_n 1, 1), (192, .iaload, 1), (193, .i2l, 1), (194, .aload_n 0, 1), (195, .getfield 110, 3), (198, .iload_n 1, 1), (199, .iaload, 1), (200, .i2l, 1), (201, .invokestatic 301, 3), (204, .ior, 1), (205, .istore_n 3, 1), (206, .iinc 4 1, 3), (209, .goto (-195), 3), (212, .aload_n 0, 1)]
set_option maxRecDepth 20000 in
theorem dn_398_1_0_ok : dn_398_1_0.all (fun q => decide (decode (xm_b n_398) q.1 = .ok (q.2.1, q.2.2))) = true := xa_g_ok (by decide +kernel)
def dn_398_1_1 : List (Nat × Instr × Nat) := [(213, .getfield 104, 3), (216, .iload_n 1, 1), (217, .iaload, 1), (218, .ifCond .lt 22, 3), (221, .aload_n 0, 1), (222, .aload_n 0, 1), (223, .getfield 104, 3), (226, .iload_n 1, 1), (227, .iaload, 1), (228, .iload_n 3, 1), (229, .ifCond .eq 7, 3), (232, .iconst 1, 1), (233, .goto 4, 3), (236, .iconst 0, 1), (237, .invokevirtual 729, 3), (240, .return_, 1)]
set_option maxRecDepth 20000 in
theorem dn_398_1_1_ok : dn_398_1_1.all (fun q => decide (decode (xm_b n_398) q.1 = .ok (q.2.1, q.2.2))) = true := xa_g_ok (by decide +kernel)
def te_398_0 : Nat → eE := (e_T 25 (e_T 10 (e_T 6 (e_T 3 (e_T 0 (e_L 0 (0, ei_push (0, 20704) 3, 0, 0)) (e_L 3 (0, ei_push (0, 33) 5, 0, 0))) (e_T 5 (e_L 5 (0, ei_load 1 0 6, 0, 0)) (e_L 6 (0, ei_bin eF_mul 7, 0, 0)))) (e_T 8 (e_T 7 (e_L 7 (0, ei_bin eF_add 8, 0, 0)) (e_L 8 (0, ei_stor 2 0 9, 0, 0))) (e_T 9 (e_L 9 (0, ei_push (0, 0) 10, 0, 0)) (e_L 10 (0, ei_stor 3 0 11, 0, 0))))) (e_T 16 (e_T 12 (e_T 11 (e_L 11 (0, ei_push (0, 1) 12, 0, 0)) (e_L 12 (0, ei_stor 4 0 14, 0, 0))) (e_T 14 (e_L 14 (0, ei_load 4 0 16, 0, 0)) (e_L 16 (0, ei_load 0 2 17, 0, 0)))) (e_T 20 (e_T 17 (e_L 17 (0, ei_getf eft elay 12 0 20, 0, 0)) (e_L 20 (0, ei_load 2 0 21, 0, 0))) (e_T 21 (e_L 21 (0, ei_ald elay false 22, 0, 0)) (e_T 22 (e_L 22 (0, ei_if2 4 212 25, 0, 0)) (e_L 25 (0, ei_load 0 2 26, 0, 0))))))) (e_T 40 (e_T 32 (e_T 29 (e_T 26 (e_L 26 (0, ei_getf eft elay 12 0 29, 0, 0)) (e_L 29 (0, ei_load 2 0 30, 0, 0))) (e_T 30 (e_L 30 (0, ei_load 4 0 32, 0, 0)) (e_L 32 (0, ei_bin eF_add 33, 0, 0)))) (e_T 34 (e_T 33 (e_L 33 (0, ei_ald elay false 34, 0, 0)) (e_L 34 (0, ei_stor 5 0 36, 0, 0))) (e_T 36 (e_L 36 (0, ei_load 0 2 37, 0, 0)) (e_T 37 (e_L 37 (0, ei_getf eft elay 12 0 40, 0, 0)) (e_L 40 (0, ei_load 5 0 42, 0, 0)))))) (e_T 47 (e_T 45 (e_T 42 (e_L 42 (2, e_nof, 392, 1)) (e_L 45 (0, ei_push (0, 3) 46, 0, 0))) (e_T 46 (e_L 46 (0, ei_bin eF_add 47, 0, 0)) (e_L 47 (0, ei_ald elay false 48, 0, 0)))) (e_T 50 (e_T 48 (e_L 48 (0, ei_stor 6 0 50, 0, 0)) (e_L 50 (0, ei_load 6 0 52, 0, 0))) (e_T 52 (e_L 52 (0, ei_load 0 2 53, 0, 0)) (e_T 53 (e_L 53 (0, ei_getf eft elay 12 35 56, 0, 0)) (e_L 56 (0, ei_load 1 0 57, 0, 0))))))))
set_option maxRecDepth 20000 in
set_option maxHeartbeats 4000000 in
theorem te_398_0_ok : ∀ pc, e_EOq eft cls elay eI n_398 pc (te_398_0 pc) :=
  (e_Tok2
  (e_Tok2
  (e_Tok2
  (e_Tok2
  (e_Tok2
  (e_Lok (ps_sipush_20704 (x_dk dn_398_0_0_ok 0 rfl)))
  (e_Lok (ps_bipush_33 (x_dk dn_398_0_0_ok 1 rfl))))
  (e_Tok2
  (e_Lok (ld_iload_n_1 (x_dk dn_398_0_0_ok 2 rfl)))
  (e_Lok (sm_imul (x_dk dn_398_0_0_ok 3 rfl)))))
  (e_Tok2
  (e_Tok2
  (e_Lok (sm_iadd (x_dk dn_398_0_0_ok 4 rfl)))
  (e_Lok (e_st (I := eI) (er_istore_n (i := 2) (x_dk dn_398_0_0_ok 5 rfl) (by decide +kernel)) nx_stor)))
  (e_Tok2
  (e_Lok (ps_iconst_0 (x_dk dn_398_0_0_ok 6 rfl)))
  (e_Lok (e_st (I := eI) (er_istore_n (i := 3) (x_dk dn_398_0_0_ok 7 rfl) (by decide +kernel)) nx_stor)))))
  (e_Tok2
  (e_Tok2
  (e_Tok2
  (e_Lok (ps_iconst_1 (x_dk dn_398_0_0_ok 8 rfl)))
  (e_Lok (e_st (I := eI) (er_istore (i := 4) (x_dk dn_398_0_0_ok 9 rfl) (by decide +kernel)) nx_stor)))
  (e_Tok2
  (e_Lok (ld_iload_4 (x_dk dn_398_0_0_ok 10 rfl)))
  (e_Lok (ld_aload_n_0 (x_dk dn_398_0_0_ok 11 rfl)))))
  (e_Tok2
  (e_Tok2
  (e_Lok (lk_12_8g ho_398 (x_dk dn_398_0_0_ok 12 rfl)))
  (e_Lok (ld_iload_n_2 (x_dk dn_398_0_0_ok 13 rfl))))
  (e_Tok2
  (e_Lok (sm_iaload (x_dk dn_398_0_0_ok 14 rfl)))
  (e_Tok2
  (e_Lok (e_st (I := eI) (er_icmpgt (off := 190) (tg := 212) (x_dk dn_398_0_0_ok 15 rfl) (by decide)) nx_if2))
  (e_Lok (ld_aload_n_0 (x_dk dn_398_0_0_ok 16 rfl))))))))
  (e_Tok2
  (e_Tok2
  (e_Tok2
  (e_Tok2
  (e_Lok (lk_12_8g ho_398 (x_dk dn_398_0_0_ok 17 rfl)))
  (e_Lok (ld_iload_n_2 (x_dk dn_398_0_0_ok 18 rfl))))
  (e_Tok2
  (e_Lok (ld_iload_4 (x_dk dn_398_0_0_ok 19 rfl)))
  (e_Lok (sm_iadd (x_dk dn_398_0_0_ok 20 rfl)))))
  (e_Tok2
  (e_Tok2
  (e_Lok (sm_iaload (x_dk dn_398_0_0_ok 21 rfl)))
  (e_Lok (e_st (I := eI) (er_istore (i := 5) (x_dk dn_398_0_0_ok 22 rfl) (by decide +kernel)) nx_stor)))
  (e_Tok2
  (e_Lok (ld_aload_n_0 (x_dk dn_398_0_0_ok 23 rfl)))
  (e_Tok2
  (e_Lok (lk_12_8g ho_398 (x_dk dn_398_0_0_ok 24 rfl)))
  (e_Lok (ld_iload_5 (x_dk dn_398_0_1_ok 0 rfl)))))))
  (e_Tok2
  (e_Tok2
  (e_Tok2
  (e_Lok (lk_12_774 ho_398 (x_dk dn_398_0_1_ok 1 rfl)))
  (e_Lok (ps_iconst_3 (x_dk dn_398_0_1_ok 2 rfl))))
  (e_Tok2
  (e_Lok (sm_iadd (x_dk dn_398_0_1_ok 3 rfl)))
  (e_Lok (sm_iaload (x_dk dn_398_0_1_ok 4 rfl)))))
  (e_Tok2
  (e_Tok2
  (e_Lok (e_st (I := eI) (er_istore (i := 6) (x_dk dn_398_0_1_ok 5 rfl) (by decide +kernel)) nx_stor))
  (e_Lok (ld_iload_6 (x_dk dn_398_0_1_ok 6 rfl))))
  (e_Tok2
  (e_Lok (ld_aload_n_0 (x_dk dn_398_0_1_ok 7 rfl)))
  (e_Tok2
  (e_Lok (lk_12_98g ho_398 (x_dk dn_398_0_1_ok 8 rfl)))
  (e_Lok (ld_iload_n_1 (x_dk dn_398_0_1_ok 9 rfl)))))))))
def te_398_35 : Nat → eE := (e_T 84 (e_T 68 (e_T 60 (e_T 58 (e_T 57 (e_L 57 (0, ei_ald elay false 58, 0, 0)) (e_L 58 (0, ei_bin eF_add 59, 0, 0))) (e_T 59 (e_L 59 (0, ei_load 0 2 60, 0, 0)) (e_L 60 (0, ei_getf eft elay 12 34 63, 0, 0)))) (e_T 64 (e_T 63 (e_L 63 (0, ei_load 1 0 64, 0, 0)) (e_L 64 (0, ei_ald elay false 65, 0, 0))) (e_T 65 (e_L 65 (0, ei_if2 3 80 68, 0, 0)) (e_L 68 (0, ei_load 6 0 70, 0, 0))))) (e_T 75 (e_T 71 (e_T 70 (e_L 70 (0, ei_load 0 2 71, 0, 0)) (e_L 71 (0, ei_getf eft elay 12 35 74, 0, 0))) (e_T 74 (e_L 74 (0, ei_load 1 0 75, 0, 0)) (e_L 75 (0, ei_ald elay false 76, 0, 0)))) (e_T 77 (e_T 76 (e_L 76 (0, ei_bin eF_add 77, 0, 0)) (e_L 77 (0, ei_goto 86, 0, 0))) (e_T 80 (e_L 80 (0, ei_load 0 2 81, 0, 0)) (e_T 81 (e_L 81 (0, ei_getf eft elay 12 34 84, 0, 0)) (e_L 84 (0, ei_load 1 0 85, 0, 0))))))) (e_T 99 (e_T 90 (e_T 86 (e_T 85 (e_L 85 (0, ei_ald elay false 86, 0, 0)) (e_L 86 (0, ei_stor 7 0 88, 0, 0))) (e_T 88 (e_L 88 (0, ei_load 4 0 90, 0, 0)) (e_L 90 (0, ei_push (0, 1) 91, 0, 0)))) (e_T 94 (e_T 91 (e_L 91 (0, ei_if2 5 153 94, 0, 0)) (e_L 94 (0, ei_load 0 2 95, 0, 0))) (e_T 95 (e_L 95 (0, ei_getf eft elay 12 0 98, 0, 0)) (e_T 98 (e_L 98 (0, ei_load 2 0 99, 0, 0)) (e_L 99 (0, ei_load 4 0 101, 0, 0)))))) (e_T 104 (e_T 102 (e_T 101 (e_L 101 (0, ei_bin eF_add 102, 0, 0)) (e_L 102 (0, ei_push (0, 1) 103, 0, 0))) (e_T 103 (e_L 103 (0, ei_bin eF_sub 104, 0, 0)) (e_L 104 (0, ei_ald elay false 105, 0, 0)))) (e_T 107 (e_T 105 (e_L 105 (0, ei_stor 8 0 107, 0, 0)) (e_L 107 (0, ei_load 0 2 108, 0, 0))) (e_T 108 (e_L 108 (0, ei_getf eft elay 12 0 111, 0, 0)) (e_T 111 (e_L 111 (0, ei_load 8 0 113, 0, 0)) (e_L 113 (2, e_nof, 392, 1))))))))
set_option maxRecDepth 20000 in
set_option maxHeartbeats 4000000 in
theorem te_398_35_ok : ∀ pc, e_EOq eft cls elay eI n_398 pc (te_398_35 pc) :=
  (e_Tok2
  (e_Tok2
  (e_Tok2
  (e_Tok2
  (e_Tok2
  (e_Lok (sm_iaload (x_dk dn_398_0_1_ok 10 rfl)))
  (e_Lok (sm_iadd (x_dk dn_398_0_1_ok 11 rfl))))
  (e_Tok2
  (e_Lok (ld_aload_n_0 (x_dk dn_398_0_1_ok 12 rfl)))
  (e_Lok (lk_12_95g ho_398 (x_dk dn_398_0_1_ok 13 rfl)))))
  (e_Tok2
  (e_Tok2
  (e_Lok (ld_iload_n_1 (x_dk dn_398_0_1_ok 14 rfl)))
  (e_Lok (sm_iaload (x_dk dn_398_0_1_ok 15 rfl))))
  (e_Tok2
  (e_Lok (e_st (I := eI) (er_icmpge (off := 15) (tg := 80) (x_dk dn_398_0_1_ok 16 rfl) (by decide)) nx_if2))
  (e_Lok (ld_iload_6 (x_dk dn_398_0_1_ok 17 rfl))))))
  (e_Tok2
  (e_Tok2
  (e_Tok2
  (e_Lok (ld_aload_n_0 (x_dk dn_398_0_1_ok 18 rfl)))
  (e_Lok (lk_12_98g ho_398 (x_dk dn_398_0_1_ok 19 rfl))))
  (e_Tok2
  (e_Lok (ld_iload_n_1 (x_dk dn_398_0_1_ok 20 rfl)))
  (e_Lok (sm_iaload (x_dk dn_398_0_1_ok 21 rfl)))))
  (e_Tok2
  (e_Tok2
  (e_Lok (sm_iadd (x_dk dn_398_0_1_ok 22 rfl)))
  (e_Lok (e_st (I := eI) (er_goto (off := 9) (tg := 86) (x_dk dn_398_0_1_ok 23 rfl) (by decide)) nx_goto)))
  (e_Tok2
  (e_Lok (ld_aload_n_0 (x_dk dn_398_0_1_ok 24 rfl)))
  (e_Tok2
  (e_Lok (lk_12_95g ho_398 (x_dk dn_398_0_2_ok 0 rfl)))
  (e_Lok (ld_iload_n_1 (x_dk dn_398_0_2_ok 1 rfl))))))))
  (e_Tok2
  (e_Tok2
  (e_Tok2
  (e_Tok2
  (e_Lok (sm_iaload (x_dk dn_398_0_2_ok 2 rfl)))
  (e_Lok (e_st (I := eI) (er_istore (i := 7) (x_dk dn_398_0_2_ok 3 rfl) (by decide +kernel)) nx_stor)))
  (e_Tok2
  (e_Lok (ld_iload_4 (x_dk dn_398_0_2_ok 4 rfl)))
  (e_Lok (ps_iconst_1 (x_dk dn_398_0_2_ok 5 rfl)))))
  (e_Tok2
  (e_Tok2
  (e_Lok (e_st (I := eI) (er_icmple (off := 62) (tg := 153) (x_dk dn_398_0_2_ok 6 rfl) (by decide)) nx_if2))
  (e_Lok (ld_aload_n_0 (x_dk dn_398_0_2_ok 7 rfl))))
  (e_Tok2
  (e_Lok (lk_12_8g ho_398 (x_dk dn_398_0_2_ok 8 rfl)))
  (e_Tok2
  (e_Lok (ld_iload_n_2 (x_dk dn_398_0_2_ok 9 rfl)))
  (e_Lok (ld_iload_4 (x_dk dn_398_0_2_ok 10 rfl)))))))
  (e_Tok2
  (e_Tok2
  (e_Tok2
  (e_Lok (sm_iadd (x_dk dn_398_0_2_ok 11 rfl)))
  (e_Lok (ps_iconst_1 (x_dk dn_398_0_2_ok 12 rfl))))
  (e_Tok2
  (e_Lok (sm_isub (x_dk dn_398_0_2_ok 13 rfl)))
  (e_Lok (sm_iaload (x_dk dn_398_0_2_ok 14 rfl)))))
  (e_Tok2
  (e_Tok2
  (e_Lok (e_st (I := eI) (er_istore (i := 8) (x_dk dn_398_0_2_ok 15 rfl) (by decide +kernel)) nx_stor))
  (e_Lok (ld_aload_n_0 (x_dk dn_398_0_2_ok 16 rfl))))
  (e_Tok2
  (e_Lok (lk_12_8g ho_398 (x_dk dn_398_0_2_ok 17 rfl)))
  (e_Tok2
  (e_Lok (ld_iload_8 (x_dk dn_398_0_2_ok 18 rfl)))
  (e_Lok (lk_12_774 ho_398 (x_dk dn_398_0_2_ok 19 rfl)))))))))
def te_398_70 : Nat → eE := (e_T 141 (e_T 126 (e_T 119 (e_T 117 (e_T 116 (e_L 116 (0, ei_push (0, 3) 117, 0, 0)) (e_L 117 (0, ei_bin eF_add 118, 0, 0))) (e_T 118 (e_L 118 (0, ei_ald elay false 119, 0, 0)) (e_L 119 (0, ei_load 0 2 120, 0, 0)))) (e_T 123 (e_T 120 (e_L 120 (0, ei_getf eft elay 12 41 123, 0, 0)) (e_L 123 (0, ei_load 8 0 125, 0, 0))) (e_T 125 (e_L 125 (0, ei_ald elay false 126, 0, 0)) (e_L 126 (0, ei_bin eF_sub 127, 0, 0))))) (e_T 133 (e_T 128 (e_T 127 (e_L 127 (0, ei_load 0 2 128, 0, 0)) (e_L 128 (0, ei_getf eft elay 12 41 131, 0, 0))) (e_T 131 (e_L 131 (0, ei_load 5 0 133, 0, 0)) (e_L 133 (0, ei_ald elay false 134, 0, 0)))) (e_T 135 (e_T 134 (e_L 134 (0, ei_bin eF_sub 135, 0, 0)) (e_L 135 (0, ei_stor 9 0 137, 0, 0))) (e_T 137 (e_L 137 (0, ei_load 9 0 139, 0, 0)) (e_T 139 (e_L 139 (0, ei_load 7 0 141, 0, 0)) (e_L 141 (0, ei_if2 3 149 144, 0, 0))))))) (e_T 162 (e_T 151 (e_T 146 (e_T 144 (e_L 144 (0, ei_load 9 0 146, 0, 0)) (e_L 146 (0, ei_goto 151, 0, 0))) (e_T 149 (e_L 149 (0, ei_load 7 0 151, 0, 0)) (e_L 151 (0, ei_stor 7 0 153, 0, 0)))) (e_T 155 (e_T 153 (e_L 153 (0, ei_load 7 0 155, 0, 0)) (e_L 155 (0, ei_load 6 0 157, 0, 0))) (e_T 157 (e_L 157 (0, ei_if2 5 165 160, 0, 0)) (e_T 160 (e_L 160 (0, ei_load 7 0 162, 0, 0)) (e_L 162 (0, ei_goto 167, 0, 0)))))) (e_T 170 (e_T 167 (e_T 165 (e_L 165 (0, ei_load 6 0 167, 0, 0)) (e_L 167 (0, ei_stor 6 0 169, 0, 0))) (e_T 169 (e_L 169 (0, ei_load 0 2 170, 0, 0)) (e_L 170 (0, ei_getf eft elay 12 0 173, 0, 0)))) (e_T 175 (e_T 173 (e_L 173 (0, ei_load 5 0 175, 0, 0)) (e_L 175 (2, e_nof, 392, 1))) (e_T 178 (e_L 178 (0, ei_push (0, 3) 179, 0, 0)) (e_T 179 (e_L 179 (0, ei_bin eF_add 180, 0, 0)) (e_L 180 (0, ei_load 6 0 182, 0, 0))))))))
set_option maxRecDepth 20000 in
set_option maxHeartbeats 4000000 in
theorem te_398_70_ok : ∀ pc, e_EOq eft cls elay eI n_398 pc (te_398_70 pc) :=
  (e_Tok2
  (e_Tok2
  (e_Tok2
  (e_Tok2
  (e_Tok2
  (e_Lok (ps_iconst_3 (x_dk dn_398_0_2_ok 20 rfl)))
  (e_Lok (sm_iadd (x_dk dn_398_0_2_ok 21 rfl))))
  (e_Tok2
  (e_Lok (sm_iaload (x_dk dn_398_0_2_ok 22 rfl)))
  (e_Lok (ld_aload_n_0 (x_dk dn_398_0_2_ok 23 rfl)))))
  (e_Tok2
  (e_Tok2
  (e_Lok (lk_12_113g ho_398 (x_dk dn_398_0_2_ok 24 rfl)))
  (e_Lok (ld_iload_8 (x_dk dn_398_0_3_ok 0 rfl))))
  (e_Tok2
  (e_Lok (sm_iaload (x_dk dn_398_0_3_ok 1 rfl)))
  (e_Lok (sm_isub (x_dk dn_398_0_3_ok 2 rfl))))))
  (e_Tok2
  (e_Tok2
  (e_Tok2
  (e_Lok (ld_aload_n_0 (x_dk dn_398_0_3_ok 3 rfl)))
  (e_Lok (lk_12_113g ho_398 (x_dk dn_398_0_3_ok 4 rfl))))
  (e_Tok2
  (e_Lok (ld_iload_5 (x_dk dn_398_0_3_ok 5 rfl)))
  (e_Lok (sm_iaload (x_dk dn_398_0_3_ok 6 rfl)))))
  (e_Tok2
  (e_Tok2
  (e_Lok (sm_isub (x_dk dn_398_0_3_ok 7 rfl)))
  (e_Lok (e_st (I := eI) (er_istore (i := 9) (x_dk dn_398_0_3_ok 8 rfl) (by decide +kernel)) nx_stor)))
  (e_Tok2
  (e_Lok (ld_iload_9 (x_dk dn_398_0_3_ok 9 rfl)))
  (e_Tok2
  (e_Lok (ld_iload_7 (x_dk dn_398_0_3_ok 10 rfl)))
  (e_Lok (e_st (I := eI) (er_icmpge (off := 8) (tg := 149) (x_dk dn_398_0_3_ok 11 rfl) (by decide)) nx_if2)))))))
  (e_Tok2
  (e_Tok2
  (e_Tok2
  (e_Tok2
  (e_Lok (ld_iload_9 (x_dk dn_398_0_3_ok 12 rfl)))
  (e_Lok (e_st (I := eI) (er_goto (off := 5) (tg := 151) (x_dk dn_398_0_3_ok 13 rfl) (by decide)) nx_goto)))
  (e_Tok2
  (e_Lok (ld_iload_7 (x_dk dn_398_0_3_ok 14 rfl)))
  (e_Lok (e_st (I := eI) (er_istore (i := 7) (x_dk dn_398_0_3_ok 15 rfl) (by decide +kernel)) nx_stor))))
  (e_Tok2
  (e_Tok2
  (e_Lok (ld_iload_7 (x_dk dn_398_0_3_ok 16 rfl)))
  (e_Lok (ld_iload_6 (x_dk dn_398_0_3_ok 17 rfl))))
  (e_Tok2
  (e_Lok (e_st (I := eI) (er_icmple (off := 8) (tg := 165) (x_dk dn_398_0_3_ok 18 rfl) (by decide)) nx_if2))
  (e_Tok2
  (e_Lok (ld_iload_7 (x_dk dn_398_0_3_ok 19 rfl)))
  (e_Lok (e_st (I := eI) (er_goto (off := 5) (tg := 167) (x_dk dn_398_0_3_ok 20 rfl) (by decide)) nx_goto))))))
  (e_Tok2
  (e_Tok2
  (e_Tok2
  (e_Lok (ld_iload_6 (x_dk dn_398_0_3_ok 21 rfl)))
  (e_Lok (e_st (I := eI) (er_istore (i := 6) (x_dk dn_398_0_3_ok 22 rfl) (by decide +kernel)) nx_stor)))
  (e_Tok2
  (e_Lok (ld_aload_n_0 (x_dk dn_398_0_3_ok 23 rfl)))
  (e_Lok (lk_12_8g ho_398 (x_dk dn_398_0_3_ok 24 rfl)))))
  (e_Tok2
  (e_Tok2
  (e_Lok (ld_iload_5 (x_dk dn_398_1_0_ok 0 rfl)))
  (e_Lok (lk_12_774 ho_398 (x_dk dn_398_1_0_ok 1 rfl))))
  (e_Tok2
  (e_Lok (ps_iconst_3 (x_dk dn_398_1_0_ok 2 rfl)))
  (e_Tok2
  (e_Lok (sm_iadd (x_dk dn_398_1_0_ok 3 rfl)))
  (e_Lok (ld_iload_6 (x_dk dn_398_1_0_ok 4 rfl)))))))))
def te_398_105 : Nat → eE := (e_T 206 (e_T 193 (e_T 186 (e_T 183 (e_T 182 (e_L 182 (0, ei_ast elay false 183, 0, 0)) (e_L 183 (0, ei_load 3 0 184, 0, 0))) (e_T 184 (e_L 184 (0, ei_load 6 0 186, 0, 0)) (e_L 186 (0, ei_un (fun x => (4, x)) 187, 0, 0)))) (e_T 188 (e_T 187 (e_L 187 (0, ei_load 0 2 188, 0, 0)) (e_L 188 (0, ei_getf eft elay 12 38 191, 0, 0))) (e_T 191 (e_L 191 (0, ei_load 1 0 192, 0, 0)) (e_T 192 (e_L 192 (0, ei_ald elay false 193, 0, 0)) (e_L 193 (0, ei_un (fun x => (4, x)) 194, 0, 0)))))) (e_T 199 (e_T 195 (e_T 194 (e_L 194 (0, ei_load 0 2 195, 0, 0)) (e_L 195 (0, ei_getf eft elay 12 39 198, 0, 0))) (e_T 198 (e_L 198 (0, ei_load 1 0 199, 0, 0)) (e_L 199 (0, ei_ald elay false 200, 0, 0)))) (e_T 201 (e_T 200 (e_L 200 (0, ei_un (fun x => (4, x)) 201, 0, 0)) (e_L 201 (2, e_nof, 266, 3))) (e_T 204 (e_L 204 (0, ei_bin (eB (fun x y => x ||| y)) 205, 0, 0)) (e_T 205 (e_L 205 (0, ei_stor 3 0 206, 0, 0)) (e_L 206 (0, ei_inc 4 1 209, 0, 0))))))) (e_T 223 (e_T 216 (e_T 212 (e_T 209 (e_L 209 (0, ei_goto 14, 0, 0)) (e_L 212 (0, ei_load 0 2 213, 0, 0))) (e_T 213 (e_L 213 (0, ei_getf eft elay 12 37 216, 0, 0)) (e_L 216 (0, ei_load 1 0 217, 0, 0)))) (e_T 218 (e_T 217 (e_L 217 (0, ei_ald elay false 218, 0, 0)) (e_L 218 (0, ei_if1 2 240 221, 0, 0))) (e_T 221 (e_L 221 (0, ei_load 0 2 222, 0, 0)) (e_T 222 (e_L 222 (0, ei_load 0 2 223, 0, 0)) (e_L 223 (0, ei_getf eft elay 12 37 226, 0, 0)))))) (e_T 229 (e_T 227 (e_T 226 (e_L 226 (0, ei_load 1 0 227, 0, 0)) (e_L 227 (0, ei_ald elay false 228, 0, 0))) (e_T 228 (e_L 228 (0, ei_load 3 0 229, 0, 0)) (e_L 229 (0, ei_if1 0 236 232, 0, 0)))) (e_T 233 (e_T 232 (e_L 232 (0, ei_push (0, 1) 233, 0, 0)) (e_L 233 (0, ei_goto 237, 0, 0))) (e_T 236 (e_L 236 (0, ei_push (0, 0) 237, 0, 0)) (e_T 237 (e_L 237 (2, e_nof, 323, 3)) (e_L 240 (1, e_nof, 0, 0))))))))
set_option maxRecDepth 20000 in
set_option maxHeartbeats 4000000 in
theorem te_398_105_ok : ∀ pc, e_EOq eft cls elay eI n_398 pc (te_398_105 pc) :=
  (e_Tok2
  (e_Tok2
  (e_Tok2
  (e_Tok2
  (e_Tok2
  (e_Lok (sm_iastore (x_dk dn_398_1_0_ok 5 rfl)))
  (e_Lok (ld_iload_n_3 (x_dk dn_398_1_0_ok 6 rfl))))
  (e_Tok2
  (e_Lok (ld_iload_6 (x_dk dn_398_1_0_ok 7 rfl)))
  (e_Lok (e_st (I := eI) (er_i2l (x_dk dn_398_1_0_ok 8 rfl)) (nx_un (fun _ => rfl))))))
  (e_Tok2
  (e_Tok2
  (e_Lok (ld_aload_n_0 (x_dk dn_398_1_0_ok 9 rfl)))
  (e_Lok (lk_12_107g ho_398 (x_dk dn_398_1_0_ok 10 rfl))))
  (e_Tok2
  (e_Lok (ld_iload_n_1 (x_dk dn_398_1_0_ok 11 rfl)))
  (e_Tok2
  (e_Lok (sm_iaload (x_dk dn_398_1_0_ok 12 rfl)))
  (e_Lok (e_st (I := eI) (er_i2l (x_dk dn_398_1_0_ok 13 rfl)) (nx_un (fun _ => rfl))))))))
  (e_Tok2
  (e_Tok2
  (e_Tok2
  (e_Lok (ld_aload_n_0 (x_dk dn_398_1_0_ok 14 rfl)))
  (e_Lok (lk_12_110g ho_398 (x_dk dn_398_1_0_ok 15 rfl))))
  (e_Tok2
  (e_Lok (ld_iload_n_1 (x_dk dn_398_1_0_ok 16 rfl)))
  (e_Lok (sm_iaload (x_dk dn_398_1_0_ok 17 rfl)))))
  (e_Tok2
  (e_Tok2
  (e_Lok (e_st (I := eI) (er_i2l (x_dk dn_398_1_0_ok 18 rfl)) (nx_un (fun _ => rfl))))
  (e_Lok (lk_12_301 ho_398 (x_dk dn_398_1_0_ok 19 rfl))))
  (e_Tok2
  (e_Lok (e_st (I := eI) (er_ior (x_dk dn_398_1_0_ok 20 rfl)) nx_bin))
  (e_Tok2
  (e_Lok (e_st (I := eI) (er_istore_n (i := 3) (x_dk dn_398_1_0_ok 21 rfl) (by decide +kernel)) nx_stor))
  (e_Lok (e_st (I := eI) (er_iinc (i := 4) (n := 1) (x_dk dn_398_1_0_ok 22 rfl) (by decide +kernel) (by decide)) nx_inc)))))))
  (e_Tok2
  (e_Tok2
  (e_Tok2
  (e_Tok2
  (e_Lok (e_st (I := eI) (er_goto (off := (-195)) (tg := 14) (x_dk dn_398_1_0_ok 23 rfl) (by decide)) nx_goto))
  (e_Lok (ld_aload_n_0 (x_dk dn_398_1_0_ok 24 rfl))))
  (e_Tok2
  (e_Lok (lk_12_104g ho_398 (x_dk dn_398_1_1_ok 0 rfl)))
  (e_Lok (ld_iload_n_1 (x_dk dn_398_1_1_ok 1 rfl)))))
  (e_Tok2
  (e_Tok2
  (e_Lok (sm_iaload (x_dk dn_398_1_1_ok 2 rfl)))
  (e_Lok (e_st (I := eI) (er_iflt (off := 22) (tg := 240) (x_dk dn_398_1_1_ok 3 rfl) (by decide)) nx_if1)))
  (e_Tok2
  (e_Lok (ld_aload_n_0 (x_dk dn_398_1_1_ok 4 rfl)))
  (e_Tok2
  (e_Lok (ld_aload_n_0 (x_dk dn_398_1_1_ok 5 rfl)))
  (e_Lok (lk_12_104g ho_398 (x_dk dn_398_1_1_ok 6 rfl)))))))
  (e_Tok2
  (e_Tok2
  (e_Tok2
  (e_Lok (ld_iload_n_1 (x_dk dn_398_1_1_ok 7 rfl)))
  (e_Lok (sm_iaload (x_dk dn_398_1_1_ok 8 rfl))))
  (e_Tok2
  (e_Lok (ld_iload_n_3 (x_dk dn_398_1_1_ok 9 rfl)))
  (e_Lok (e_st (I := eI) (er_ifeq (off := 7) (tg := 236) (x_dk dn_398_1_1_ok 10 rfl) (by decide)) nx_if1))))
  (e_Tok2
  (e_Tok2
  (e_Lok (ps_iconst_1 (x_dk dn_398_1_1_ok 11 rfl)))
  (e_Lok (e_st (I := eI) (er_goto (off := 4) (tg := 237) (x_dk dn_398_1_1_ok 12 rfl) (by decide)) nx_goto)))
  (e_Tok2
  (e_Lok (ps_iconst_0 (x_dk dn_398_1_1_ok 13 rfl)))
  (e_Tok2
  (e_Lok (lk_12_729 ho_398 (x_dk dn_398_1_1_ok 14 rfl)))
  (e_Lok (e_rt (I := eI) (k := 0) ⟨(x_dk dn_398_1_1_ok 15 rfl), rfl⟩))))))))
def te_398 : Nat → eE := (e_T 113 (e_T 56 te_398_0 te_398_35) (e_T 180 te_398_70 te_398_105))
theorem te_398_ok : ∀ pc, e_EOq eft cls elay eI n_398 pc (te_398 pc) := (e_Tok2 ((e_Tok2 (te_398_0_ok) (te_398_35_ok))) ((e_Tok2 (te_398_70_ok) (te_398_105_ok))))
theorem ho_399 : (xm_y n_399).cls = "RobotCellHouseModel" := rfl
def dn_399_0_0 : List (Nat × Instr × Nat) := [(0, .sipush 20836, 3), (3, .iconst 4, 1), (4, .iload_n 1, 1), (5, .imul, 1), (6, .iadd, 1), (7, .istore_n 2, 1), (8, .aload_n 0, 1), (9, .getfield 8, 3), (12, .iload_n 2, 1), (13, .iaload, 1), (14, .iconst 1, 1), (15, .if_icmp .ne 30, 3), (18, .aload_n 0, 1), (19, .getfield 8, 3), (22, .iload_n 2, 1), (23, .iconst 1, 1), (24, .iadd, 1), (25, .iaload, 1), (26, .iconst 1, 1), (27, .if_icmp .ne 18, 3), (30, .aload_n 0, 1), (31, .getfield 8, 3), (34, .iload_n 2, 1), (35, .iconst 3, 1), (36, .iadd, 1)]
set_option maxRecDepth 20000 in
theorem dn_399_0_0_ok : dn_399_0_0.all (fun q => decide (decode (xm_b n_399) q.1 = .ok (q.2.1, q.2.2))) = true := xa_g_ok (by decide +kernel)
def dn_399_0_1 : List (Nat × Instr × Nat) := [(37, .iaload, 1), (38, .ifCond .ne 7, 3), (41, .iconst 1, 1), (42, .goto 4, 3), (45, .iconst 0, 1), (46, .ireturn, 1)]
set_option maxRecDepth 20000 in
theorem dn_399_0_1_ok : dn_399_0_1.all (fun q => decide (decode (xm_b n_399) q.1 = .ok (q.2.1, q.2.2))) = true := xa_g_ok (by decide +kernel)
def te_399_0 : Nat → eE := (e_T 22 (e_T 8 (e_T 4 (e_T 0 (e_L 0 (0, ei_push (0, 20836) 3, 0, 0)) (e_T 3 (e_L 3 (0, ei_push (0, 4) 4, 0, 0)) (e_L 4 (0, ei_load 1 0 5, 0, 0)))) (e_T 6 (e_T 5 (e_L 5 (0, ei_bin eF_mul 6, 0, 0)) (e_L 6 (0, ei_bin eF_add 7, 0, 0))) (e_T 7 (e_L 7 (0, ei_stor 2 0 8, 0, 0)) (e_L 8 (0, ei_load 0 2 9, 0, 0))))) (e_T 14 (e_T 12 (e_T 9 (e_L 9 (0, ei_getf eft elay 12 0 12, 0, 0)) (e_L 12 (0, ei_load 2 0 13, 0, 0))) (e_T 13 (e_L 13 (0, ei_ald elay false 14, 0, 0)) (e_L 14 (0, ei_push (0, 1) 15, 0, 0)))) (e_T 18 (e_T 15 (e_L 15 (0, ei_if2 1 45 18, 0, 0)) (e_L 18 (0, ei_load 0 2 19, 0, 0))) (e_T 19 (e_L 19 (0, ei_getf eft elay 12 0 22, 0, 0)) (e_L 22 (0, ei_load 2 0 23, 0, 0)))))) (e_T 34 (e_T 26 (e_T 24 (e_T 23 (e_L 23 (0, ei_push (0, 1) 24, 0, 0)) (e_L 24 (0, ei_bin eF_add 25, 0, 0))) (e_T 25 (e_L 25 (0, ei_ald elay false 26, 0, 0)) (e_L 26 (0, ei_push (0, 1) 27, 0, 0)))) (e_T 30 (e_T 27 (e_L 27 (0, ei_if2 1 45 30, 0, 0)) (e_L 30 (0, ei_load 0 2 31, 0, 0))) (e_T 31 (e_L 31 (0, ei_getf eft elay 12 0 34, 0, 0)) (e_L 34 (0, ei_load 2 0 35, 0, 0))))) (e_T 38 (e_T 36 (e_T 35 (e_L 35 (0, ei_push (0, 3) 36, 0, 0)) (e_L 36 (0, ei_bin eF_add 37, 0, 0))) (e_T 37 (e_L 37 (0, ei_ald elay false 38, 0, 0)) (e_L 38 (0, ei_if1 1 45 41, 0, 0)))) (e_T 42 (e_T 41 (e_L 41 (0, ei_push (0, 1) 42, 0, 0)) (e_L 42 (0, ei_goto 46, 0, 0))) (e_T 45 (e_L 45 (0, ei_push (0, 0) 46, 0, 0)) (e_L 46 (1, e_nof, 4, 0)))))))
set_option maxRecDepth 20000 in
set_option maxHeartbeats 4000000 in
theorem te_399_0_ok : ∀ pc, e_EOq eft cls elay eI n_399 pc (te_399_0 pc) :=
  (e_Tok2
  (e_Tok2
  (e_Tok2
  (e_Tok2
  (e_Lok (ps_sipush_20836 (x_dk dn_399_0_0_ok 0 rfl)))
  (e_Tok2
  (e_Lok (ps_iconst_4 (x_dk dn_399_0_0_ok 1 rfl)))
  (e_Lok (ld_iload_n_1 (x_dk dn_399_0_0_ok 2 rfl)))))
  (e_Tok2
  (e_Tok2
  (e_Lok (sm_imul (x_dk dn_399_0_0_ok 3 rfl)))
  (e_Lok (sm_iadd (x_dk dn_399_0_0_ok 4 rfl))))
  (e_Tok2
  (e_Lok (e_st (I := eI) (er_istore_n (i := 2) (x_dk dn_399_0_0_ok 5 rfl) (by decide +kernel)) nx_stor))
  (e_Lok (ld_aload_n_0 (x_dk dn_399_0_0_ok 6 rfl))))))
  (e_Tok2
  (e_Tok2
  (e_Tok2
  (e_Lok (lk_12_8g ho_399 (x_dk dn_399_0_0_ok 7 rfl)))
  (e_Lok (ld_iload_n_2 (x_dk dn_399_0_0_ok 8 rfl))))
  (e_Tok2
  (e_Lok (sm_iaload (x_dk dn_399_0_0_ok 9 rfl)))
  (e_Lok (ps_iconst_1 (x_dk dn_399_0_0_ok 10 rfl)))))
  (e_Tok2
  (e_Tok2
  (e_Lok (e_st (I := eI) (er_icmpne (off := 30) (tg := 45) (x_dk dn_399_0_0_ok 11 rfl) (by decide)) nx_if2))
  (e_Lok (ld_aload_n_0 (x_dk dn_399_0_0_ok 12 rfl))))
  (e_Tok2
  (e_Lok (lk_12_8g ho_399 (x_dk dn_399_0_0_ok 13 rfl)))
  (e_Lok (ld_iload_n_2 (x_dk dn_399_0_0_ok 14 rfl)))))))
  (e_Tok2
  (e_Tok2
  (e_Tok2
  (e_Tok2
  (e_Lok (ps_iconst_1 (x_dk dn_399_0_0_ok 15 rfl)))
  (e_Lok (sm_iadd (x_dk dn_399_0_0_ok 16 rfl))))
  (e_Tok2
  (e_Lok (sm_iaload (x_dk dn_399_0_0_ok 17 rfl)))
  (e_Lok (ps_iconst_1 (x_dk dn_399_0_0_ok 18 rfl)))))
  (e_Tok2
  (e_Tok2
  (e_Lok (e_st (I := eI) (er_icmpne (off := 18) (tg := 45) (x_dk dn_399_0_0_ok 19 rfl) (by decide)) nx_if2))
  (e_Lok (ld_aload_n_0 (x_dk dn_399_0_0_ok 20 rfl))))
  (e_Tok2
  (e_Lok (lk_12_8g ho_399 (x_dk dn_399_0_0_ok 21 rfl)))
  (e_Lok (ld_iload_n_2 (x_dk dn_399_0_0_ok 22 rfl))))))
  (e_Tok2
  (e_Tok2
  (e_Tok2
  (e_Lok (ps_iconst_3 (x_dk dn_399_0_0_ok 23 rfl)))
  (e_Lok (sm_iadd (x_dk dn_399_0_0_ok 24 rfl))))
  (e_Tok2
  (e_Lok (sm_iaload (x_dk dn_399_0_1_ok 0 rfl)))
  (e_Lok (e_st (I := eI) (er_ifne (off := 7) (tg := 45) (x_dk dn_399_0_1_ok 1 rfl) (by decide)) nx_if1))))
  (e_Tok2
  (e_Tok2
  (e_Lok (ps_iconst_1 (x_dk dn_399_0_1_ok 2 rfl)))
  (e_Lok (e_st (I := eI) (er_goto (off := 4) (tg := 46) (x_dk dn_399_0_1_ok 3 rfl) (by decide)) nx_goto)))
  (e_Tok2
  (e_Lok (ps_iconst_0 (x_dk dn_399_0_1_ok 4 rfl)))
  (e_Lok (e_rt (I := eI) (k := 4) ⟨(x_dk dn_399_0_1_ok 5 rfl), rfl⟩)))))))
def te_399 : Nat → eE := te_399_0
theorem te_399_ok : ∀ pc, e_EOq eft cls elay eI n_399 pc (te_399 pc) := te_399_0_ok
theorem ho_400 : (xm_y n_400).cls = "RobotCellHouseModel" := rfl
def dn_400_0_0 : List (Nat × Instr × Nat) := [(0, .iconst 0, 1), (1, .istore_n 1, 1), (2, .iload_n 1, 1), (3, .aload_n 0, 1), (4, .getfield 285, 3), (7, .if_icmp .ge 19, 3), (10, .aload_n 0, 1), (11, .iload_n 1, 1), (12, .invokevirtual 780, 3), (15, .ifCond .ne 5, 3), (18, .iload_n 1, 1), (19, .ireturn, 1), (20, .iinc 1 1, 3), (23, .goto (-21), 3), (26, .iconst (-1), 1), (27, .ireturn, 1)]
set_option maxRecDepth 20000 in
theorem dn_400_0_0_ok : dn_400_0_0.all (fun q => decide (decode (xm_b n_400) q.1 = .ok (q.2.1, q.2.2))) = true := xa_g_ok (by decide +kernel)
def te_400_0 : Nat → eE := (e_T 11 (e_T 3 (e_T 1 (e_T 0 (e_L 0 (0, ei_push (0, 0) 1, 0, 0)) (e_L 1 (0, ei_stor 1 0 2, 0, 0))) (e_T 2 (e_L 2 (0, ei_load 1 0 3, 0, 0)) (e_L 3 (0, ei_load 0 2 4, 0, 0)))) (e_T 7 (e_T 4 (e_L 4 (0, ei_getf eft elay 12 49 7, 0, 0)) (e_L 7 (0, ei_if2 3 26 10, 0, 0))) (e_T 10 (e_L 10 (0, ei_load 0 2 11, 0, 0)) (e_L 11 (0, ei_load 1 0 12, 0, 0))))) (e_T 19 (e_T 15 (e_T 12 (e_L 12 (2, e_nof, 399, 2)) (e_L 15 (0, ei_if1 1 20 18, 0, 0))) (e_T 18 (e_L 18 (0, ei_load 1 0 19, 0, 0)) (e_L 19 (1, e_nof, 1, 0)))) (e_T 23 (e_T 20 (e_L 20 (0, ei_inc 1 1 23, 0, 0)) (e_L 23 (0, ei_goto 2, 0, 0))) (e_T 26 (e_L 26 (0, ei_push (0, (-1)) 27, 0, 0)) (e_L 27 (1, e_nof, 1, 0))))))
set_option maxRecDepth 20000 in
set_option maxHeartbeats 4000000 in
theorem te_400_0_ok : ∀ pc, e_EOq eft cls elay eI n_400 pc (te_400_0 pc) :=
  (e_Tok2
  (e_Tok2
  (e_Tok2
  (e_Tok2
  (e_Lok (ps_iconst_0 (x_dk dn_400_0_0_ok 0 rfl)))
  (e_Lok (e_st (I := eI) (er_istore_n (i := 1) (x_dk dn_400_0_0_ok 1 rfl) (by decide +kernel)) nx_stor)))
  (e_Tok2
  (e_Lok (ld_iload_n_1 (x_dk dn_400_0_0_ok 2 rfl)))
  (e_Lok (ld_aload_n_0 (x_dk dn_400_0_0_ok 3 rfl)))))
  (e_Tok2
  (e_Tok2
  (e_Lok (lk_12_285g ho_400 (x_dk dn_400_0_0_ok 4 rfl)))
  (e_Lok (e_st (I := eI) (er_icmpge (off := 19) (tg := 26) (x_dk dn_400_0_0_ok 5 rfl) (by decide)) nx_if2)))
  (e_Tok2
  (e_Lok (ld_aload_n_0 (x_dk dn_400_0_0_ok 6 rfl)))
  (e_Lok (ld_iload_n_1 (x_dk dn_400_0_0_ok 7 rfl))))))
  (e_Tok2
  (e_Tok2
  (e_Tok2
  (e_Lok (lk_12_780 ho_400 (x_dk dn_400_0_0_ok 8 rfl)))
  (e_Lok (e_st (I := eI) (er_ifne (off := 5) (tg := 20) (x_dk dn_400_0_0_ok 9 rfl) (by decide)) nx_if1)))
  (e_Tok2
  (e_Lok (ld_iload_n_1 (x_dk dn_400_0_0_ok 10 rfl)))
  (e_Lok (e_rt (I := eI) (k := 1) ⟨(x_dk dn_400_0_0_ok 11 rfl), rfl⟩))))
  (e_Tok2
  (e_Tok2
  (e_Lok (e_st (I := eI) (er_iinc (i := 1) (n := 1) (x_dk dn_400_0_0_ok 12 rfl) (by decide +kernel) (by decide)) nx_inc))
  (e_Lok (e_st (I := eI) (er_goto (off := (-21)) (tg := 2) (x_dk dn_400_0_0_ok 13 rfl) (by decide)) nx_goto)))
  (e_Tok2
  (e_Lok (ps_iconst_m1 (x_dk dn_400_0_0_ok 14 rfl)))
  (e_Lok (e_rt (I := eI) (k := 1) ⟨(x_dk dn_400_0_0_ok 15 rfl), rfl⟩))))))
def te_400 : Nat → eE := te_400_0
theorem te_400_ok : ∀ pc, e_EOq eft cls elay eI n_400 pc (te_400 pc) := te_400_0_ok
theorem ho_401 : (xm_y n_401).cls = "RobotCellHouseModel" := rfl
def dn_401_0_0 : List (Nat × Instr × Nat) := [(0, .iconst 0, 1), (1, .istore_n 1, 1), (2, .iload_n 1, 1), (3, .aload_n 0, 1), (4, .getfield 285, 3), (7, .if_icmp .ge 93, 3), (10, .sipush 20836, 3), (13, .iconst 4, 1), (14, .iload_n 1, 1), (15, .imul, 1), (16, .iadd, 1), (17, .istore_n 2, 1), (18, .aload_n 0, 1), (19, .getfield 8, 3), (22, .iload_n 2, 1), (23, .iconst 2, 1), (24, .iadd, 1), (25, .aload_n 0, 1), (26, .getfield 8, 3), (29, .iload_n 2, 1), (30, .iaload, 1), (31, .aload_n 0, 1), (32, .getfield 8, 3), (35, .iload_n 2, 1), (36, .iconst 1, 1)]
set_option maxRecDepth 20000 in
theorem dn_401_0_0_ok : dn_401_0_0.all (fun q => decide (decode (xm_b n_401) q.1 = .ok (q.2.1, q.2.2))) = true := xa_g_ok (by decide +kernel)
def dn_401_0_1 : List (Nat × Instr × Nat) := [(37, .iadd, 1), (38, .iaload, 1), (39, .if_icmp .eq 16, 3), (42, .aload_n 0, 1), (43, .getfield 8, 3), (46, .iload_n 2, 1), (47, .iconst 2, 1), (48, .iadd, 1), (49, .iaload, 1), (50, .iconst 1, 1), (51, .iadd, 1), (52, .goto 4, 3), (55, .iconst 0, 1), (56, .iastore, 1), (57, .aload_n 0, 1), (58, .getfield 8, 3), (61, .iload_n 2, 1), (62, .iconst 3, 1), (63, .iadd, 1), (64, .aload_n 0, 1), (65, .getfield 8, 3), (68, .iload_n 2, 1), (69, .iconst 2, 1), (70, .iadd, 1), (71, .iaload, 1)]
set_option maxRecDepth 20000 in
theorem dn_401_0_1_ok : dn_401_0_1.all (fun q => decide (decode (xm_b n_401) q.1 = .ok (q.2.1, q.2.2))) = true := xa_g_ok (by decide +kernel)
def dn_401_0_2 : List (Nat × Instr × Nat) := [(72, .aload_n 0, 1), (73, .getfield 134, 3), (76, .iload_n 1, 1), (77, .iaload, 1), (78, .if_icmp .le 7, 3), (81, .iconst 1, 1), (82, .goto 11, 3), (85, .aload_n 0, 1), (86, .getfield 8, 3), (89, .iload_n 2, 1), (90, .iconst 3, 1), (91, .iadd, 1), (92, .iaload, 1), (93, .iastore, 1), (94, .iinc 1 1, 3), (97, .goto (-95), 3), (100, .return_, 1)]
set_option maxRecDepth 20000 in
theorem dn_401_0_2_ok : dn_401_0_2.all (fun q => decide (decode (xm_b n_401) q.1 = .ok (q.2.1, q.2.2))) = true := xa_g_ok (by decide +kernel)
def te_401_0 : Nat → eE := (e_T 23 (e_T 13 (e_T 3 (e_T 1 (e_T 0 (e_L 0 (0, ei_push (0, 0) 1, 0, 0)) (e_L 1 (0, ei_stor 1 0 2, 0, 0))) (e_T 2 (e_L 2 (0, ei_load 1 0 3, 0, 0)) (e_L 3 (0, ei_load 0 2 4, 0, 0)))) (e_T 7 (e_T 4 (e_L 4 (0, ei_getf eft elay 12 49 7, 0, 0)) (e_L 7 (0, ei_if2 3 100 10, 0, 0))) (e_T 10 (e_L 10 (0, ei_push (0, 20836) 13, 0, 0)) (e_L 13 (0, ei_push (0, 4) 14, 0, 0))))) (e_T 17 (e_T 15 (e_T 14 (e_L 14 (0, ei_load 1 0 15, 0, 0)) (e_L 15 (0, ei_bin eF_mul 16, 0, 0))) (e_T 16 (e_L 16 (0, ei_bin eF_add 17, 0, 0)) (e_L 17 (0, ei_stor 2 0 18, 0, 0)))) (e_T 19 (e_T 18 (e_L 18 (0, ei_load 0 2 19, 0, 0)) (e_L 19 (0, ei_getf eft elay 12 0 22, 0, 0))) (e_T 22 (e_L 22 (0, ei_load 2 0 23, 0, 0)) (e_L 23 (0, ei_push (0, 2) 24, 0, 0)))))) (e_T 35 (e_T 29 (e_T 25 (e_T 24 (e_L 24 (0, ei_bin eF_add 25, 0, 0)) (e_L 25 (0, ei_load 0 2 26, 0, 0))) (e_T 26 (e_L 26 (0, ei_getf eft elay 12 0 29, 0, 0)) (e_L 29 (0, ei_load 2 0 30, 0, 0)))) (e_T 31 (e_T 30 (e_L 30 (0, ei_ald elay false 31, 0, 0)) (e_L 31 (0, ei_load 0 2 32, 0, 0))) (e_T 32 (e_L 32 (0, ei_getf eft elay 12 0 35, 0, 0)) (e_L 35 (0, ei_load 2 0 36, 0, 0))))) (e_T 39 (e_T 37 (e_T 36 (e_L 36 (0, ei_push (0, 1) 37, 0, 0)) (e_L 37 (0, ei_bin eF_add 38, 0, 0))) (e_T 38 (e_L 38 (0, ei_ald elay false 39, 0, 0)) (e_L 39 (0, ei_if2 0 55 42, 0, 0)))) (e_T 43 (e_T 42 (e_L 42 (0, ei_load 0 2 43, 0, 0)) (e_L 43 (0, ei_getf eft elay 12 0 46, 0, 0))) (e_T 46 (e_L 46 (0, ei_load 2 0 47, 0, 0)) (e_T 47 (e_L 47 (0, ei_push (0, 2) 48, 0, 0)) (e_L 48 (0, ei_bin eF_add 49, 0, 0))))))))
set_option maxRecDepth 20000 in
set_option maxHeartbeats 4000000 in
theorem te_401_0_ok : ∀ pc, e_EOq eft cls elay eI n_401 pc (te_401_0 pc) :=
  (e_Tok2
  (e_Tok2
  (e_Tok2
  (e_Tok2
  (e_Tok2
  (e_Lok (ps_iconst_0 (x_dk dn_401_0_0_ok 0 rfl)))
  (e_Lok (e_st (I := eI) (er_istore_n (i := 1) (x_dk dn_401_0_0_ok 1 rfl) (by decide +kernel)) nx_stor)))
  (e_Tok2
  (e_Lok (ld_iload_n_1 (x_dk dn_401_0_0_ok 2 rfl)))
  (e_Lok (ld_aload_n_0 (x_dk dn_401_0_0_ok 3 rfl)))))
  (e_Tok2
  (e_Tok2
  (e_Lok (lk_12_285g ho_401 (x_dk dn_401_0_0_ok 4 rfl)))
  (e_Lok (e_st (I := eI) (er_icmpge (off := 93) (tg := 100) (x_dk dn_401_0_0_ok 5 rfl) (by decide)) nx_if2)))
  (e_Tok2
  (e_Lok (ps_sipush_20836 (x_dk dn_401_0_0_ok 6 rfl)))
  (e_Lok (ps_iconst_4 (x_dk dn_401_0_0_ok 7 rfl))))))
  (e_Tok2
  (e_Tok2
  (e_Tok2
  (e_Lok (ld_iload_n_1 (x_dk dn_401_0_0_ok 8 rfl)))
  (e_Lok (sm_imul (x_dk dn_401_0_0_ok 9 rfl))))
  (e_Tok2
  (e_Lok (sm_iadd (x_dk dn_401_0_0_ok 10 rfl)))
  (e_Lok (e_st (I := eI) (er_istore_n (i := 2) (x_dk dn_401_0_0_ok 11 rfl) (by decide +kernel)) nx_stor))))
  (e_Tok2
  (e_Tok2
  (e_Lok (ld_aload_n_0 (x_dk dn_401_0_0_ok 12 rfl)))
  (e_Lok (lk_12_8g ho_401 (x_dk dn_401_0_0_ok 13 rfl))))
  (e_Tok2
  (e_Lok (ld_iload_n_2 (x_dk dn_401_0_0_ok 14 rfl)))
  (e_Lok (ps_iconst_2 (x_dk dn_401_0_0_ok 15 rfl)))))))
  (e_Tok2
  (e_Tok2
  (e_Tok2
  (e_Tok2
  (e_Lok (sm_iadd (x_dk dn_401_0_0_ok 16 rfl)))
  (e_Lok (ld_aload_n_0 (x_dk dn_401_0_0_ok 17 rfl))))
  (e_Tok2
  (e_Lok (lk_12_8g ho_401 (x_dk dn_401_0_0_ok 18 rfl)))
  (e_Lok (ld_iload_n_2 (x_dk dn_401_0_0_ok 19 rfl)))))
  (e_Tok2
  (e_Tok2
  (e_Lok (sm_iaload (x_dk dn_401_0_0_ok 20 rfl)))
  (e_Lok (ld_aload_n_0 (x_dk dn_401_0_0_ok 21 rfl))))
  (e_Tok2
  (e_Lok (lk_12_8g ho_401 (x_dk dn_401_0_0_ok 22 rfl)))
  (e_Lok (ld_iload_n_2 (x_dk dn_401_0_0_ok 23 rfl))))))
  (e_Tok2
  (e_Tok2
  (e_Tok2
  (e_Lok (ps_iconst_1 (x_dk dn_401_0_0_ok 24 rfl)))
  (e_Lok (sm_iadd (x_dk dn_401_0_1_ok 0 rfl))))
  (e_Tok2
  (e_Lok (sm_iaload (x_dk dn_401_0_1_ok 1 rfl)))
  (e_Lok (e_st (I := eI) (er_icmpeq (off := 16) (tg := 55) (x_dk dn_401_0_1_ok 2 rfl) (by decide)) nx_if2))))
  (e_Tok2
  (e_Tok2
  (e_Lok (ld_aload_n_0 (x_dk dn_401_0_1_ok 3 rfl)))
  (e_Lok (lk_12_8g ho_401 (x_dk dn_401_0_1_ok 4 rfl))))
  (e_Tok2
  (e_Lok (ld_iload_n_2 (x_dk dn_401_0_1_ok 5 rfl)))
  (e_Tok2
  (e_Lok (ps_iconst_2 (x_dk dn_401_0_1_ok 6 rfl)))
  (e_Lok (sm_iadd (x_dk dn_401_0_1_ok 7 rfl)))))))))
def te_401_33 : Nat → eE := (e_T 71 (e_T 58 (e_T 52 (e_T 50 (e_T 49 (e_L 49 (0, ei_ald elay false 50, 0, 0)) (e_L 50 (0, ei_push (0, 1) 51, 0, 0))) (e_T 51 (e_L 51 (0, ei_bin eF_add 52, 0, 0)) (e_L 52 (0, ei_goto 56, 0, 0)))) (e_T 56 (e_T 55 (e_L 55 (0, ei_push (0, 0) 56, 0, 0)) (e_L 56 (0, ei_ast elay false 57, 0, 0))) (e_T 57 (e_L 57 (0, ei_load 0 2 58, 0, 0)) (e_L 58 (0, ei_getf eft elay 12 0 61, 0, 0))))) (e_T 64 (e_T 62 (e_T 61 (e_L 61 (0, ei_load 2 0 62, 0, 0)) (e_L 62 (0, ei_push (0, 3) 63, 0, 0))) (e_T 63 (e_L 63 (0, ei_bin eF_add 64, 0, 0)) (e_L 64 (0, ei_load 0 2 65, 0, 0)))) (e_T 68 (e_T 65 (e_L 65 (0, ei_getf eft elay 12 0 68, 0, 0)) (e_L 68 (0, ei_load 2 0 69, 0, 0))) (e_T 69 (e_L 69 (0, ei_push (0, 2) 70, 0, 0)) (e_T 70 (e_L 70 (0, ei_bin eF_add 71, 0, 0)) (e_L 71 (0, ei_ald elay false 72, 0, 0))))))) (e_T 85 (e_T 77 (e_T 73 (e_T 72 (e_L 72 (0, ei_load 0 2 73, 0, 0)) (e_L 73 (0, ei_getf eft elay 12 50 76, 0, 0))) (e_T 76 (e_L 76 (0, ei_load 1 0 77, 0, 0)) (e_L 77 (0, ei_ald elay false 78, 0, 0)))) (e_T 81 (e_T 78 (e_L 78 (0, ei_if2 5 85 81, 0, 0)) (e_L 81 (0, ei_push (0, 1) 82, 0, 0))) (e_T 82 (e_L 82 (0, ei_goto 93, 0, 0)) (e_L 85 (0, ei_load 0 2 86, 0, 0))))) (e_T 91 (e_T 89 (e_T 86 (e_L 86 (0, ei_getf eft elay 12 0 89, 0, 0)) (e_L 89 (0, ei_load 2 0 90, 0, 0))) (e_T 90 (e_L 90 (0, ei_push (0, 3) 91, 0, 0)) (e_L 91 (0, ei_bin eF_add 92, 0, 0)))) (e_T 93 (e_T 92 (e_L 92 (0, ei_ald elay false 93, 0, 0)) (e_L 93 (0, ei_ast elay false 94, 0, 0))) (e_T 94 (e_L 94 (0, ei_inc 1 1 97, 0, 0)) (e_T 97 (e_L 97 (0, ei_goto 2, 0, 0)) (e_L 100 (1, e_nof, 0, 0))))))))
set_option maxRecDepth 20000 in
set_option maxHeartbeats 4000000 in
theorem te_401_33_ok : ∀ pc, e_EOq eft cls elay eI n_401 pc (te_401_33 pc) :=
  (e_Tok2
  (e_Tok2
  (e_Tok2
  (e_Tok2
  (e_Tok2
  (e_Lok (sm_iaload (x_dk dn_401_0_1_ok 8 rfl)))
  (e_Lok (ps_iconst_1 (x_dk dn_401_0_1_ok 9 rfl))))
  (e_Tok2
  (e_Lok (sm_iadd (x_dk dn_401_0_1_ok 10 rfl)))
  (e_Lok (e_st (I := eI) (er_goto (off := 4) (tg := 56) (x_dk dn_401_0_1_ok 11 rfl) (by decide)) nx_goto))))
  (e_Tok2
  (e_Tok2
  (e_Lok (ps_iconst_0 (x_dk dn_401_0_1_ok 12 rfl)))
  (e_Lok (sm_iastore (x_dk dn_401_0_1_ok 13 rfl))))
  (e_Tok2
  (e_Lok (ld_aload_n_0 (x_dk dn_401_0_1_ok 14 rfl)))
  (e_Lok (lk_12_8g ho_401 (x_dk dn_401_0_1_ok 15 rfl))))))
  (e_Tok2
  (e_Tok2
  (e_Tok2
  (e_Lok (ld_iload_n_2 (x_dk dn_401_0_1_ok 16 rfl)))
  (e_Lok (ps_iconst_3 (x_dk dn_401_0_1_ok 17 rfl))))
  (e_Tok2
  (e_Lok (sm_iadd (x_dk dn_401_0_1_ok 18 rfl)))
  (e_Lok (ld_aload_n_0 (x_dk dn_401_0_1_ok 19 rfl)))))
  (e_Tok2
  (e_Tok2
  (e_Lok (lk_12_8g ho_401 (x_dk dn_401_0_1_ok 20 rfl)))
  (e_Lok (ld_iload_n_2 (x_dk dn_401_0_1_ok 21 rfl))))
  (e_Tok2
  (e_Lok (ps_iconst_2 (x_dk dn_401_0_1_ok 22 rfl)))
  (e_Tok2
  (e_Lok (sm_iadd (x_dk dn_401_0_1_ok 23 rfl)))
  (e_Lok (sm_iaload (x_dk dn_401_0_1_ok 24 rfl))))))))
  (e_Tok2
  (e_Tok2
  (e_Tok2
  (e_Tok2
  (e_Lok (ld_aload_n_0 (x_dk dn_401_0_2_ok 0 rfl)))
  (e_Lok (lk_12_134g ho_401 (x_dk dn_401_0_2_ok 1 rfl))))
  (e_Tok2
  (e_Lok (ld_iload_n_1 (x_dk dn_401_0_2_ok 2 rfl)))
  (e_Lok (sm_iaload (x_dk dn_401_0_2_ok 3 rfl)))))
  (e_Tok2
  (e_Tok2
  (e_Lok (e_st (I := eI) (er_icmple (off := 7) (tg := 85) (x_dk dn_401_0_2_ok 4 rfl) (by decide)) nx_if2))
  (e_Lok (ps_iconst_1 (x_dk dn_401_0_2_ok 5 rfl))))
  (e_Tok2
  (e_Lok (e_st (I := eI) (er_goto (off := 11) (tg := 93) (x_dk dn_401_0_2_ok 6 rfl) (by decide)) nx_goto))
  (e_Lok (ld_aload_n_0 (x_dk dn_401_0_2_ok 7 rfl))))))
  (e_Tok2
  (e_Tok2
  (e_Tok2
  (e_Lok (lk_12_8g ho_401 (x_dk dn_401_0_2_ok 8 rfl)))
  (e_Lok (ld_iload_n_2 (x_dk dn_401_0_2_ok 9 rfl))))
  (e_Tok2
  (e_Lok (ps_iconst_3 (x_dk dn_401_0_2_ok 10 rfl)))
  (e_Lok (sm_iadd (x_dk dn_401_0_2_ok 11 rfl)))))
  (e_Tok2
  (e_Tok2
  (e_Lok (sm_iaload (x_dk dn_401_0_2_ok 12 rfl)))
  (e_Lok (sm_iastore (x_dk dn_401_0_2_ok 13 rfl))))
  (e_Tok2
  (e_Lok (e_st (I := eI) (er_iinc (i := 1) (n := 1) (x_dk dn_401_0_2_ok 14 rfl) (by decide +kernel) (by decide)) nx_inc))
  (e_Tok2
  (e_Lok (e_st (I := eI) (er_goto (off := (-95)) (tg := 2) (x_dk dn_401_0_2_ok 15 rfl) (by decide)) nx_goto))
  (e_Lok (e_rt (I := eI) (k := 0) ⟨(x_dk dn_401_0_2_ok 16 rfl), rfl⟩))))))))
def te_401 : Nat → eE := (e_T 48 te_401_0 te_401_33)
theorem te_401_ok : ∀ pc, e_EOq eft cls elay eI n_401 pc (te_401 pc) := (e_Tok2 (te_401_0_ok) (te_401_33_ok))
theorem ho_402 : (xm_y n_402).cls = "RobotCellHouseModel" := rfl
def dn_402_0_0 : List (Nat × Instr × Nat) := [(0, .iconst 0, 1), (1, .istore_n 1, 1), (2, .iload_n 1, 1), (3, .aload_n 0, 1), (4, .getfield 269, 3), (7, .if_icmp .ge 52, 3), (10, .iconst 0, 1), (11, .istore_n 2, 1), (12, .iload_n 2, 1), (13, .aload_n 0, 1), (14, .getfield 43, 3), (17, .iload_n 1, 1), (18, .iaload, 1), (19, .if_icmp .ge 34, 3), (22, .aload_n 0, 1), (23, .getfield 225, 3), (26, .bipush 6, 2), (28, .iload_n 1, 1), (29, .imul, 1), (30, .iload_n 2, 1), (31, .iadd, 1), (32, .aload_n 0, 1), (33, .getfield 8, 3), (36, .iload_n 1, 1), (37, .invokestatic 294, 3)]
set_option maxRecDepth 20000 in
theorem dn_402_0_0_ok : dn_402_0_0.all (fun q => decide (decode (xm_b n_402) q.1 = .ok (q.2.1, q.2.2))) = true := xa_g_ok (by decide +kernel)
def dn_402_0_1 : List (Nat × Instr × Nat) := [(40, .bipush 22, 2), (42, .iadd, 1), (43, .iload_n 2, 1), (44, .iadd, 1), (45, .iaload, 1), (46, .iastore, 1), (47, .iinc 2 1, 3), (50, .goto (-38), 3), (53, .iinc 1 1, 3), (56, .goto (-54), 3), (59, .iconst 0, 1), (60, .istore_n 1, 1), (61, .iload_n 1, 1), (62, .aload_n 0, 1), (63, .getfield 269, 3), (66, .if_icmp .ge 14, 3), (69, .aload_n 0, 1), (70, .iload_n 1, 1), (71, .invokevirtual 783, 3), (74, .iinc 1 1, 3), (77, .goto (-16), 3), (80, .return_, 1)]
set_option maxRecDepth 20000 in
theorem dn_402_0_1_ok : dn_402_0_1.all (fun q => decide (decode (xm_b n_402) q.1 = .ok (q.2.1, q.2.2))) = true := xa_g_ok (by decide +kernel)
def te_402_0 : Nat → eE := (e_T 14 (e_T 4 (e_T 1 (e_T 0 (e_L 0 (0, ei_push (0, 0) 1, 0, 0)) (e_L 1 (0, ei_stor 1 0 2, 0, 0))) (e_T 2 (e_L 2 (0, ei_load 1 0 3, 0, 0)) (e_T 3 (e_L 3 (0, ei_load 0 2 4, 0, 0)) (e_L 4 (0, ei_getf eft elay 12 10 7, 0, 0))))) (e_T 11 (e_T 7 (e_L 7 (0, ei_if2 3 59 10, 0, 0)) (e_T 10 (e_L 10 (0, ei_push (0, 0) 11, 0, 0)) (e_L 11 (0, ei_stor 2 0 12, 0, 0)))) (e_T 12 (e_L 12 (0, ei_load 2 0 13, 0, 0)) (e_T 13 (e_L 13 (0, ei_load 0 2 14, 0, 0)) (e_L 14 (0, ei_getf eft elay 12 15 17, 0, 0)))))) (e_T 26 (e_T 19 (e_T 17 (e_L 17 (0, ei_load 1 0 18, 0, 0)) (e_T 18 (e_L 18 (0, ei_ald elay false 19, 0, 0)) (e_L 19 (0, ei_if2 3 53 22, 0, 0)))) (e_T 22 (e_L 22 (0, ei_load 0 2 23, 0, 0)) (e_T 23 (e_L 23 (0, ei_getf eft elay 12 103 26, 0, 0)) (e_L 26 (0, ei_push (0, 6) 28, 0, 0))))) (e_T 30 (e_T 28 (e_L 28 (0, ei_load 1 0 29, 0, 0)) (e_T 29 (e_L 29 (0, ei_bin eF_mul 30, 0, 0)) (e_L 30 (0, ei_load 2 0 31, 0, 0)))) (e_T 31 (e_L 31 (0, ei_bin eF_add 32, 0, 0)) (e_T 32 (e_L 32 (0, ei_load 0 2 33, 0, 0)) (e_L 33 (0, ei_getf eft elay 12 0 36, 0, 0)))))))
set_option maxRecDepth 20000 in
set_option maxHeartbeats 4000000 in
theorem te_402_0_ok : ∀ pc, e_EOq eft cls elay eI n_402 pc (te_402_0 pc) :=
  (e_Tok2
  (e_Tok2
  (e_Tok2
  (e_Tok2
  (e_Lok (ps_iconst_0 (x_dk dn_402_0_0_ok 0 rfl)))
  (e_Lok (e_st (I := eI) (er_istore_n (i := 1) (x_dk dn_402_0_0_ok 1 rfl) (by decide +kernel)) nx_stor)))
  (e_Tok2
  (e_Lok (ld_iload_n_1 (x_dk dn_402_0_0_ok 2 rfl)))
  (e_Tok2
  (e_Lok (ld_aload_n_0 (x_dk dn_402_0_0_ok 3 rfl)))
  (e_Lok (lk_12_269g ho_402 (x_dk dn_402_0_0_ok 4 rfl))))))
  (e_Tok2
  (e_Tok2
  (e_Lok (e_st (I := eI) (er_icmpge (off := 52) (tg := 59) (x_dk dn_402_0_0_ok 5 rfl) (by decide)) nx_if2))
  (e_Tok2
  (e_Lok (ps_iconst_0 (x_dk dn_402_0_0_ok 6 rfl)))
  (e_Lok (e_st (I := eI) (er_istore_n (i := 2) (x_dk dn_402_0_0_ok 7 rfl) (by decide +kernel)) nx_stor))))
  (e_Tok2
  (e_Lok (ld_iload_n_2 (x_dk dn_402_0_0_ok 8 rfl)))
  (e_Tok2
  (e_Lok (ld_aload_n_0 (x_dk dn_402_0_0_ok 9 rfl)))
  (e_Lok (lk_12_43g ho_402 (x_dk dn_402_0_0_ok 10 rfl)))))))
  (e_Tok2
  (e_Tok2
  (e_Tok2
  (e_Lok (ld_iload_n_1 (x_dk dn_402_0_0_ok 11 rfl)))
  (e_Tok2
  (e_Lok (sm_iaload (x_dk dn_402_0_0_ok 12 rfl)))
  (e_Lok (e_st (I := eI) (er_icmpge (off := 34) (tg := 53) (x_dk dn_402_0_0_ok 13 rfl) (by decide)) nx_if2))))
  (e_Tok2
  (e_Lok (ld_aload_n_0 (x_dk dn_402_0_0_ok 14 rfl)))
  (e_Tok2
  (e_Lok (lk_12_225g ho_402 (x_dk dn_402_0_0_ok 15 rfl)))
  (e_Lok (ps_bipush_6 (x_dk dn_402_0_0_ok 16 rfl))))))
  (e_Tok2
  (e_Tok2
  (e_Lok (ld_iload_n_1 (x_dk dn_402_0_0_ok 17 rfl)))
  (e_Tok2
  (e_Lok (sm_imul (x_dk dn_402_0_0_ok 18 rfl)))
  (e_Lok (ld_iload_n_2 (x_dk dn_402_0_0_ok 19 rfl)))))
  (e_Tok2
  (e_Lok (sm_iadd (x_dk dn_402_0_0_ok 20 rfl)))
  (e_Tok2
  (e_Lok (ld_aload_n_0 (x_dk dn_402_0_0_ok 21 rfl)))
  (e_Lok (lk_12_8g ho_402 (x_dk dn_402_0_0_ok 22 rfl))))))))
def te_402_23 : Nat → eE := (e_T 56 (e_T 44 (e_T 40 (e_T 36 (e_L 36 (0, ei_load 1 0 37, 0, 0)) (e_T 37 (e_L 37 (2, e_nof, 268, 1)) (e_L 40 (0, ei_push (0, 22) 42, 0, 0)))) (e_T 42 (e_L 42 (0, ei_bin eF_add 43, 0, 0)) (e_T 43 (e_L 43 (0, ei_load 2 0 44, 0, 0)) (e_L 44 (0, ei_bin eF_add 45, 0, 0))))) (e_T 47 (e_T 45 (e_L 45 (0, ei_ald elay false 46, 0, 0)) (e_T 46 (e_L 46 (0, ei_ast elay false 47, 0, 0)) (e_L 47 (0, ei_inc 2 1 50, 0, 0)))) (e_T 50 (e_L 50 (0, ei_goto 12, 0, 0)) (e_T 53 (e_L 53 (0, ei_inc 1 1 56, 0, 0)) (e_L 56 (0, ei_goto 2, 0, 0)))))) (e_T 66 (e_T 61 (e_T 59 (e_L 59 (0, ei_push (0, 0) 60, 0, 0)) (e_T 60 (e_L 60 (0, ei_stor 1 0 61, 0, 0)) (e_L 61 (0, ei_load 1 0 62, 0, 0)))) (e_T 62 (e_L 62 (0, ei_load 0 2 63, 0, 0)) (e_T 63 (e_L 63 (0, ei_getf eft elay 12 10 66, 0, 0)) (e_L 66 (0, ei_if2 3 80 69, 0, 0))))) (e_T 71 (e_T 69 (e_L 69 (0, ei_load 0 2 70, 0, 0)) (e_T 70 (e_L 70 (0, ei_load 1 0 71, 0, 0)) (e_L 71 (2, e_nof, 388, 2)))) (e_T 74 (e_L 74 (0, ei_inc 1 1 77, 0, 0)) (e_T 77 (e_L 77 (0, ei_goto 61, 0, 0)) (e_L 80 (1, e_nof, 0, 0)))))))
set_option maxRecDepth 20000 in
set_option maxHeartbeats 4000000 in
theorem te_402_23_ok : ∀ pc, e_EOq eft cls elay eI n_402 pc (te_402_23 pc) :=
  (e_Tok2
  (e_Tok2
  (e_Tok2
  (e_Tok2
  (e_Lok (ld_iload_n_1 (x_dk dn_402_0_0_ok 23 rfl)))
  (e_Tok2
  (e_Lok (lk_12_294 ho_402 (x_dk dn_402_0_0_ok 24 rfl)))
  (e_Lok (ps_bipush_22 (x_dk dn_402_0_1_ok 0 rfl)))))
  (e_Tok2
  (e_Lok (sm_iadd (x_dk dn_402_0_1_ok 1 rfl)))
  (e_Tok2
  (e_Lok (ld_iload_n_2 (x_dk dn_402_0_1_ok 2 rfl)))
  (e_Lok (sm_iadd (x_dk dn_402_0_1_ok 3 rfl))))))
  (e_Tok2
  (e_Tok2
  (e_Lok (sm_iaload (x_dk dn_402_0_1_ok 4 rfl)))
  (e_Tok2
  (e_Lok (sm_iastore (x_dk dn_402_0_1_ok 5 rfl)))
  (e_Lok (e_st (I := eI) (er_iinc (i := 2) (n := 1) (x_dk dn_402_0_1_ok 6 rfl) (by decide +kernel) (by decide)) nx_inc))))
  (e_Tok2
  (e_Lok (e_st (I := eI) (er_goto (off := (-38)) (tg := 12) (x_dk dn_402_0_1_ok 7 rfl) (by decide)) nx_goto))
  (e_Tok2
  (e_Lok (e_st (I := eI) (er_iinc (i := 1) (n := 1) (x_dk dn_402_0_1_ok 8 rfl) (by decide +kernel) (by decide)) nx_inc))
  (e_Lok (e_st (I := eI) (er_goto (off := (-54)) (tg := 2) (x_dk dn_402_0_1_ok 9 rfl) (by decide)) nx_goto))))))
  (e_Tok2
  (e_Tok2
  (e_Tok2
  (e_Lok (ps_iconst_0 (x_dk dn_402_0_1_ok 10 rfl)))
  (e_Tok2
  (e_Lok (e_st (I := eI) (er_istore_n (i := 1) (x_dk dn_402_0_1_ok 11 rfl) (by decide +kernel)) nx_stor))
  (e_Lok (ld_iload_n_1 (x_dk dn_402_0_1_ok 12 rfl)))))
  (e_Tok2
  (e_Lok (ld_aload_n_0 (x_dk dn_402_0_1_ok 13 rfl)))
  (e_Tok2
  (e_Lok (lk_12_269g ho_402 (x_dk dn_402_0_1_ok 14 rfl)))
  (e_Lok (e_st (I := eI) (er_icmpge (off := 14) (tg := 80) (x_dk dn_402_0_1_ok 15 rfl) (by decide)) nx_if2)))))
  (e_Tok2
  (e_Tok2
  (e_Lok (ld_aload_n_0 (x_dk dn_402_0_1_ok 16 rfl)))
  (e_Tok2
  (e_Lok (ld_iload_n_1 (x_dk dn_402_0_1_ok 17 rfl)))
  (e_Lok (lk_12_783 ho_402 (x_dk dn_402_0_1_ok 18 rfl)))))
  (e_Tok2
  (e_Lok (e_st (I := eI) (er_iinc (i := 1) (n := 1) (x_dk dn_402_0_1_ok 19 rfl) (by decide +kernel) (by decide)) nx_inc))
  (e_Tok2
  (e_Lok (e_st (I := eI) (er_goto (off := (-16)) (tg := 61) (x_dk dn_402_0_1_ok 20 rfl) (by decide)) nx_goto))
  (e_Lok (e_rt (I := eI) (k := 0) ⟨(x_dk dn_402_0_1_ok 21 rfl), rfl⟩)))))))
def te_402 : Nat → eE := (e_T 33 te_402_0 te_402_23)
theorem te_402_ok : ∀ pc, e_EOq eft cls elay eI n_402 pc (te_402 pc) := (e_Tok2 (te_402_0_ok) (te_402_23_ok))
theorem ho_403 : (xm_y n_403).cls = "RobotCellHouseModel" := rfl
def dn_403_0_0 : List (Nat × Instr × Nat) := [(0, .iconst 0, 1), (1, .istore_n 2, 1), (2, .iload_n 2, 1), (3, .aload_n 0, 1), (4, .getfield 269, 3), (7, .if_icmp .ge 178, 3), (10, .iconst 0, 1), (11, .istore_n 3, 1), (12, .iload_n 3, 1), (13, .aload_n 0, 1), (14, .getfield 43, 3), (17, .iload_n 2, 1), (18, .iaload, 1), (19, .if_icmp .ge 160, 3), (22, .bipush 6, 2), (24, .iload_n 2, 1), (25, .imul, 1), (26, .iload_n 3, 1), (27, .iadd, 1), (28, .istore 4, 2), (30, .aload_n 0, 1), (31, .getfield 8, 3), (34, .iload_n 2, 1), (35, .invokestatic 294, 3), (38, .bipush 22, 2)]
set_option maxRecDepth 20000 in
theorem dn_403_0_0_ok : dn_403_0_0.all (fun q => decide (decode (xm_b n_403) q.1 = .ok (q.2.1, q.2.2))) = true := xa_g_ok (by decide +kernel)
def dn_403_0_1 : List (Nat × Instr × Nat) := [(40, .iadd, 1), (41, .iload_n 3, 1), (42, .iadd, 1), (43, .iaload, 1), (44, .istore 5, 2), (46, .iload 5, 2), (48, .aload_n 0, 1), (49, .getfield 225, 3), (52, .iload 4, 2), (54, .iaload, 1), (55, .isub, 1), (56, .istore 6, 2), (58, .iload_n 1, 1), (59, .ifCond .eq 59, 3), (62, .iload 5, 2), (64, .i2l, 1), (65, .aload_n 0, 1), (66, .getfield 55, 3), (69, .iload 4, 2), (71, .iaload, 1), (72, .ineg, 1), (73, .i2l, 1), (74, .aload_n 0, 1), (75, .getfield 55, 3), (78, .iload 4, 2)]
set_option maxRecDepth 20000 in
theorem dn_403_0_1_ok : dn_403_0_1.all (fun q => decide (decode (xm_b n_403) q.1 = .ok (q.2.1, q.2.2))) = true := xa_g_ok (by decide +kernel)
def dn_403_0_2 : List (Nat × Instr × Nat) := [(80, .iaload, 1), (81, .i2l, 1), (82, .invokestatic 301, 3), (85, .ifCond .eq 29, 3), (88, .iload 6, 2), (90, .i2l, 1), (91, .aload_n 0, 1), (92, .getfield 58, 3), (95, .iload 4, 2), (97, .iaload, 1), (98, .ineg, 1), (99, .i2l, 1), (100, .aload_n 0, 1), (101, .getfield 58, 3), (104, .iload 4, 2), (106, .iaload, 1), (107, .i2l, 1), (108, .invokestatic 301, 3), (111, .ifCond .ne 7, 3), (114, .iconst 1, 1), (115, .goto 4, 3), (118, .iconst 0, 1), (119, .istore 7, 2), (121, .aload_n 0, 1), (122, .iconst 0, 1)]
set_option maxRecDepth 20000 in
theorem dn_403_0_2_ok : dn_403_0_2.all (fun q => decide (decode (xm_b n_403) q.1 = .ok (q.2.1, q.2.2))) = true := xa_g_ok (by decide +kernel)
def dn_403_0_3 : List (Nat × Instr × Nat) := [(123, .aload_n 0, 1), (124, .getfield 8, 3), (127, .iload_n 2, 1), (128, .invokestatic 294, 3), (131, .bipush 16, 2), (133, .iadd, 1), (134, .iload_n 3, 1), (135, .iadd, 1), (136, .iaload, 1), (137, .i2l, 1), (138, .aload_n 0, 1), (139, .getfield 49, 3), (142, .iload 4, 2), (144, .iaload, 1), (145, .i2l, 1), (146, .aload_n 0, 1), (147, .getfield 52, 3), (150, .iload 4, 2), (152, .iaload, 1), (153, .i2l, 1), (154, .invokestatic 301, 3), (157, .ifCond .eq 8, 3), (160, .iload 7, 2), (162, .ifCond .eq 7, 3), (165, .iconst 1, 1)]
set_option maxRecDepth 20000 in
theorem dn_403_0_3_ok : dn_403_0_3.all (fun q => decide (decode (xm_b n_403) q.1 = .ok (q.2.1, q.2.2))) = true := xa_g_ok (by decide +kernel)
def dn_403_1_0 : List (Nat × Instr × Nat) := [(166, .goto 4, 3), (169, .iconst 0, 1), (170, .invokevirtual 765, 3), (173, .iinc 3 1, 3), (176, .goto (-164), 3), (179, .iinc 2 1, 3), (182, .goto (-180), 3), (185, .return_, 1)]
set_option maxRecDepth 20000 in
theorem dn_403_1_0_ok : dn_403_1_0.all (fun q => decide (decode (xm_b n_403) q.1 = .ok (q.2.1, q.2.2))) = true := xa_g_ok (by decide +kernel)
def te_403_0 : Nat → eE := (e_T 18 (e_T 7 (e_T 2 (e_T 0 (e_L 0 (0, ei_push (0, 0) 1, 0, 0)) (e_T 1 (e_L 1 (0, ei_stor 2 0 2, 0, 0)) (e_L 2 (0, ei_load 2 0 3, 0, 0)))) (e_T 3 (e_L 3 (0, ei_load 0 2 4, 0, 0)) (e_T 4 (e_L 4 (0, ei_getf eft elay 12 10 7, 0, 0)) (e_L 7 (0, ei_if2 3 185 10, 0, 0))))) (e_T 12 (e_T 10 (e_L 10 (0, ei_push (0, 0) 11, 0, 0)) (e_T 11 (e_L 11 (0, ei_stor 3 0 12, 0, 0)) (e_L 12 (0, ei_load 3 0 13, 0, 0)))) (e_T 14 (e_T 13 (e_L 13 (0, ei_load 0 2 14, 0, 0)) (e_L 14 (0, ei_getf eft elay 12 15 17, 0, 0))) (e_T 17 (e_L 17 (0, ei_load 2 0 18, 0, 0)) (e_L 18 (0, ei_ald elay false 19, 0, 0)))))) (e_T 28 (e_T 24 (e_T 19 (e_L 19 (0, ei_if2 3 179 22, 0, 0)) (e_T 22 (e_L 22 (0, ei_push (0, 6) 24, 0, 0)) (e_L 24 (0, ei_load 2 0 25, 0, 0)))) (e_T 26 (e_T 25 (e_L 25 (0, ei_bin eF_mul 26, 0, 0)) (e_L 26 (0, ei_load 3 0 27, 0, 0))) (e_T 27 (e_L 27 (0, ei_bin eF_add 28, 0, 0)) (e_L 28 (0, ei_stor 4 0 30, 0, 0))))) (e_T 34 (e_T 30 (e_L 30 (0, ei_load 0 2 31, 0, 0)) (e_T 31 (e_L 31 (0, ei_getf eft elay 12 0 34, 0, 0)) (e_L 34 (0, ei_load 2 0 35, 0, 0)))) (e_T 38 (e_T 35 (e_L 35 (2, e_nof, 268, 1)) (e_L 38 (0, ei_push (0, 22) 40, 0, 0))) (e_T 40 (e_L 40 (0, ei_bin eF_add 41, 0, 0)) (e_L 41 (0, ei_load 3 0 42, 0, 0)))))))
set_option maxRecDepth 20000 in
set_option maxHeartbeats 4000000 in
theorem te_403_0_ok : ∀ pc, e_EOq eft cls elay eI n_403 pc (te_403_0 pc) :=
  (e_Tok2
  (e_Tok2
  (e_Tok2
  (e_Tok2
  (e_Lok (ps_iconst_0 (x_dk dn_403_0_0_ok 0 rfl)))
  (e_Tok2
  (e_Lok (e_st (I := eI) (er_istore_n (i := 2) (x_dk dn_403_0_0_ok 1 rfl) (by decide +kernel)) nx_stor))
  (e_Lok (ld_iload_n_2 (x_dk dn_403_0_0_ok 2 rfl)))))
  (e_Tok2
  (e_Lok (ld_aload_n_0 (x_dk dn_403_0_0_ok 3 rfl)))
  (e_Tok2
  (e_Lok (lk_12_269g ho_403 (x_dk dn_403_0_0_ok 4 rfl)))
  (e_Lok (e_st (I := eI) (er_icmpge (off := 178) (tg := 185) (x_dk dn_403_0_0_ok 5 rfl) (by decide)) nx_if2)))))
  (e_Tok2
  (e_Tok2
  (e_Lok (ps_iconst_0 (x_dk dn_403_0_0_ok 6 rfl)))
  (e_Tok2
  (e_Lok (e_st (I := eI) (er_istore_n (i := 3) (x_dk dn_403_0_0_ok 7 rfl) (by decide +kernel)) nx_stor))
  (e_Lok (ld_iload_n_3 (x_dk dn_403_0_0_ok 8 rfl)))))
  (e_Tok2
  (e_Tok2
  (e_Lok (ld_aload_n_0 (x_dk dn_403_0_0_ok 9 rfl)))
  (e_Lok (lk_12_43g ho_403 (x_dk dn_403_0_0_ok 10 rfl))))
  (e_Tok2
  (e_Lok (ld_iload_n_2 (x_dk dn_403_0_0_ok 11 rfl)))
  (e_Lok (sm_iaload (x_dk dn_403_0_0_ok 12 rfl)))))))
  (e_Tok2
  (e_Tok2
  (e_Tok2
  (e_Lok (e_st (I := eI) (er_icmpge (off := 160) (tg := 179) (x_dk dn_403_0_0_ok 13 rfl) (by decide)) nx_if2))
  (e_Tok2
  (e_Lok (ps_bipush_6 (x_dk dn_403_0_0_ok 14 rfl)))
  (e_Lok (ld_iload_n_2 (x_dk dn_403_0_0_ok 15 rfl)))))
  (e_Tok2
  (e_Tok2
  (e_Lok (sm_imul (x_dk dn_403_0_0_ok 16 rfl)))
  (e_Lok (ld_iload_n_3 (x_dk dn_403_0_0_ok 17 rfl))))
  (e_Tok2
  (e_Lok (sm_iadd (x_dk dn_403_0_0_ok 18 rfl)))
  (e_Lok (e_st (I := eI) (er_istore (i := 4) (x_dk dn_403_0_0_ok 19 rfl) (by decide +kernel)) nx_stor)))))
  (e_Tok2
  (e_Tok2
  (e_Lok (ld_aload_n_0 (x_dk dn_403_0_0_ok 20 rfl)))
  (e_Tok2
  (e_Lok (lk_12_8g ho_403 (x_dk dn_403_0_0_ok 21 rfl)))
  (e_Lok (ld_iload_n_2 (x_dk dn_403_0_0_ok 22 rfl)))))
  (e_Tok2
  (e_Tok2
  (e_Lok (lk_12_294 ho_403 (x_dk dn_403_0_0_ok 23 rfl)))
  (e_Lok (ps_bipush_22 (x_dk dn_403_0_0_ok 24 rfl))))
  (e_Tok2
  (e_Lok (sm_iadd (x_dk dn_403_0_1_ok 0 rfl)))
  (e_Lok (ld_iload_n_3 (x_dk dn_403_0_1_ok 1 rfl))))))))
def te_403_27 : Nat → eE := (e_T 62 (e_T 49 (e_T 44 (e_T 42 (e_L 42 (0, ei_bin eF_add 43, 0, 0)) (e_T 43 (e_L 43 (0, ei_ald elay false 44, 0, 0)) (e_L 44 (0, ei_stor 5 0 46, 0, 0)))) (e_T 46 (e_L 46 (0, ei_load 5 0 48, 0, 0)) (e_T 48 (e_L 48 (0, ei_load 0 2 49, 0, 0)) (e_L 49 (0, ei_getf eft elay 12 103 52, 0, 0))))) (e_T 55 (e_T 52 (e_L 52 (0, ei_load 4 0 54, 0, 0)) (e_T 54 (e_L 54 (0, ei_ald elay false 55, 0, 0)) (e_L 55 (0, ei_bin eF_sub 56, 0, 0)))) (e_T 58 (e_T 56 (e_L 56 (0, ei_stor 6 0 58, 0, 0)) (e_L 58 (0, ei_load 1 0 59, 0, 0))) (e_T 59 (e_L 59 (0, ei_if1 0 118 62, 0, 0)) (e_L 62 (0, ei_load 5 0 64, 0, 0)))))) (e_T 73 (e_T 66 (e_T 64 (e_L 64 (0, ei_un (fun x => (4, x)) 65, 0, 0)) (e_T 65 (e_L 65 (0, ei_load 0 2 66, 0, 0)) (e_L 66 (0, ei_getf eft elay 12 19 69, 0, 0)))) (e_T 71 (e_T 69 (e_L 69 (0, ei_load 4 0 71, 0, 0)) (e_L 71 (0, ei_ald elay false 72, 0, 0))) (e_T 72 (e_L 72 (0, ei_un (fun x => (0, e32 (-x))) 73, 0, 0)) (e_L 73 (0, ei_un (fun x => (4, x)) 74, 0, 0))))) (e_T 78 (e_T 74 (e_L 74 (0, ei_load 0 2 75, 0, 0)) (e_T 75 (e_L 75 (0, ei_getf eft elay 12 19 78, 0, 0)) (e_L 78 (0, ei_load 4 0 80, 0, 0)))) (e_T 81 (e_T 80 (e_L 80 (0, ei_ald elay false 81, 0, 0)) (e_L 81 (0, ei_un (fun x => (4, x)) 82, 0, 0))) (e_T 82 (e_L 82 (2, e_nof, 266, 3)) (e_L 85 (0, ei_if1 0 114 88, 0, 0)))))))
set_option maxRecDepth 20000 in
set_option maxHeartbeats 4000000 in
theorem te_403_27_ok : ∀ pc, e_EOq eft cls elay eI n_403 pc (te_403_27 pc) :=
  (e_Tok2
  (e_Tok2
  (e_Tok2
  (e_Tok2
  (e_Lok (sm_iadd (x_dk dn_403_0_1_ok 2 rfl)))
  (e_Tok2
  (e_Lok (sm_iaload (x_dk dn_403_0_1_ok 3 rfl)))
  (e_Lok (e_st (I := eI) (er_istore (i := 5) (x_dk dn_403_0_1_ok 4 rfl) (by decide +kernel)) nx_stor))))
  (e_Tok2
  (e_Lok (ld_iload_5 (x_dk dn_403_0_1_ok 5 rfl)))
  (e_Tok2
  (e_Lok (ld_aload_n_0 (x_dk dn_403_0_1_ok 6 rfl)))
  (e_Lok (lk_12_225g ho_403 (x_dk dn_403_0_1_ok 7 rfl))))))
  (e_Tok2
  (e_Tok2
  (e_Lok (ld_iload_4 (x_dk dn_403_0_1_ok 8 rfl)))
  (e_Tok2
  (e_Lok (sm_iaload (x_dk dn_403_0_1_ok 9 rfl)))
  (e_Lok (sm_isub (x_dk dn_403_0_1_ok 10 rfl)))))
  (e_Tok2
  (e_Tok2
  (e_Lok (e_st (I := eI) (er_istore (i := 6) (x_dk dn_403_0_1_ok 11 rfl) (by decide +kernel)) nx_stor))
  (e_Lok (ld_iload_n_1 (x_dk dn_403_0_1_ok 12 rfl))))
  (e_Tok2
  (e_Lok (e_st (I := eI) (er_ifeq (off := 59) (tg := 118) (x_dk dn_403_0_1_ok 13 rfl) (by decide)) nx_if1))
  (e_Lok (ld_iload_5 (x_dk dn_403_0_1_ok 14 rfl)))))))
  (e_Tok2
  (e_Tok2
  (e_Tok2
  (e_Lok (e_st (I := eI) (er_i2l (x_dk dn_403_0_1_ok 15 rfl)) (nx_un (fun _ => rfl))))
  (e_Tok2
  (e_Lok (ld_aload_n_0 (x_dk dn_403_0_1_ok 16 rfl)))
  (e_Lok (lk_12_55g ho_403 (x_dk dn_403_0_1_ok 17 rfl)))))
  (e_Tok2
  (e_Tok2
  (e_Lok (ld_iload_4 (x_dk dn_403_0_1_ok 18 rfl)))
  (e_Lok (sm_iaload (x_dk dn_403_0_1_ok 19 rfl))))
  (e_Tok2
  (e_Lok (e_st (I := eI) (er_ineg (x_dk dn_403_0_1_ok 20 rfl)) (nx_un (fun _ => rfl))))
  (e_Lok (e_st (I := eI) (er_i2l (x_dk dn_403_0_1_ok 21 rfl)) (nx_un (fun _ => rfl)))))))
  (e_Tok2
  (e_Tok2
  (e_Lok (ld_aload_n_0 (x_dk dn_403_0_1_ok 22 rfl)))
  (e_Tok2
  (e_Lok (lk_12_55g ho_403 (x_dk dn_403_0_1_ok 23 rfl)))
  (e_Lok (ld_iload_4 (x_dk dn_403_0_1_ok 24 rfl)))))
  (e_Tok2
  (e_Tok2
  (e_Lok (sm_iaload (x_dk dn_403_0_2_ok 0 rfl)))
  (e_Lok (e_st (I := eI) (er_i2l (x_dk dn_403_0_2_ok 1 rfl)) (nx_un (fun _ => rfl)))))
  (e_Tok2
  (e_Lok (lk_12_301 ho_403 (x_dk dn_403_0_2_ok 2 rfl)))
  (e_Lok (e_st (I := eI) (er_ifeq (off := 29) (tg := 114) (x_dk dn_403_0_2_ok 3 rfl) (by decide)) nx_if1)))))))
def te_403_54 : Nat → eE := (e_T 107 (e_T 97 (e_T 91 (e_T 88 (e_L 88 (0, ei_load 6 0 90, 0, 0)) (e_T 90 (e_L 90 (0, ei_un (fun x => (4, x)) 91, 0, 0)) (e_L 91 (0, ei_load 0 2 92, 0, 0)))) (e_T 92 (e_L 92 (0, ei_getf eft elay 12 20 95, 0, 0)) (e_T 95 (e_L 95 (0, ei_load 4 0 97, 0, 0)) (e_L 97 (0, ei_ald elay false 98, 0, 0))))) (e_T 100 (e_T 98 (e_L 98 (0, ei_un (fun x => (0, e32 (-x))) 99, 0, 0)) (e_T 99 (e_L 99 (0, ei_un (fun x => (4, x)) 100, 0, 0)) (e_L 100 (0, ei_load 0 2 101, 0, 0)))) (e_T 104 (e_T 101 (e_L 101 (0, ei_getf eft elay 12 20 104, 0, 0)) (e_L 104 (0, ei_load 4 0 106, 0, 0))) (e_T 106 (e_L 106 (0, ei_ald elay false 107, 0, 0)) (e_L 107 (0, ei_un (fun x => (4, x)) 108, 0, 0)))))) (e_T 121 (e_T 114 (e_T 108 (e_L 108 (2, e_nof, 266, 3)) (e_T 111 (e_L 111 (0, ei_if1 1 118 114, 0, 0)) (e_L 114 (0, ei_push (0, 1) 115, 0, 0)))) (e_T 118 (e_T 115 (e_L 115 (0, ei_goto 119, 0, 0)) (e_L 118 (0, ei_push (0, 0) 119, 0, 0))) (e_T 119 (e_L 119 (0, ei_stor 7 0 121, 0, 0)) (e_L 121 (0, ei_load 0 2 122, 0, 0))))) (e_T 124 (e_T 122 (e_L 122 (0, ei_push (0, 0) 123, 0, 0)) (e_T 123 (e_L 123 (0, ei_load 0 2 124, 0, 0)) (e_L 124 (0, ei_getf eft elay 12 0 127, 0, 0)))) (e_T 128 (e_T 127 (e_L 127 (0, ei_load 2 0 128, 0, 0)) (e_L 128 (2, e_nof, 268, 1))) (e_T 131 (e_L 131 (0, ei_push (0, 16) 133, 0, 0)) (e_L 133 (0, ei_bin eF_add 134, 0, 0)))))))
set_option maxRecDepth 20000 in
set_option maxHeartbeats 4000000 in
theorem te_403_54_ok : ∀ pc, e_EOq eft cls elay eI n_403 pc (te_403_54 pc) :=
  (e_Tok2
  (e_Tok2
  (e_Tok2
  (e_Tok2
  (e_Lok (ld_iload_6 (x_dk dn_403_0_2_ok 4 rfl)))
  (e_Tok2
  (e_Lok (e_st (I := eI) (er_i2l (x_dk dn_403_0_2_ok 5 rfl)) (nx_un (fun _ => rfl))))
  (e_Lok (ld_aload_n_0 (x_dk dn_403_0_2_ok 6 rfl)))))
  (e_Tok2
  (e_Lok (lk_12_58g ho_403 (x_dk dn_403_0_2_ok 7 rfl)))
  (e_Tok2
  (e_Lok (ld_iload_4 (x_dk dn_403_0_2_ok 8 rfl)))
  (e_Lok (sm_iaload (x_dk dn_403_0_2_ok 9 rfl))))))
  (e_Tok2
  (e_Tok2
  (e_Lok (e_st (I := eI) (er_ineg (x_dk dn_403_0_2_ok 10 rfl)) (nx_un (fun _ => rfl))))
  (e_Tok2
  (e_Lok (e_st (I := eI) (er_i2l (x_dk dn_403_0_2_ok 11 rfl)) (nx_un (fun _ => rfl))))
  (e_Lok (ld_aload_n_0 (x_dk dn_403_0_2_ok 12 rfl)))))
  (e_Tok2
  (e_Tok2
  (e_Lok (lk_12_58g ho_403 (x_dk dn_403_0_2_ok 13 rfl)))
  (e_Lok (ld_iload_4 (x_dk dn_403_0_2_ok 14 rfl))))
  (e_Tok2
  (e_Lok (sm_iaload (x_dk dn_403_0_2_ok 15 rfl)))
  (e_Lok (e_st (I := eI) (er_i2l (x_dk dn_403_0_2_ok 16 rfl)) (nx_un (fun _ => rfl))))))))
  (e_Tok2
  (e_Tok2
  (e_Tok2
  (e_Lok (lk_12_301 ho_403 (x_dk dn_403_0_2_ok 17 rfl)))
  (e_Tok2
  (e_Lok (e_st (I := eI) (er_ifne (off := 7) (tg := 118) (x_dk dn_403_0_2_ok 18 rfl) (by decide)) nx_if1))
  (e_Lok (ps_iconst_1 (x_dk dn_403_0_2_ok 19 rfl)))))
  (e_Tok2
  (e_Tok2
  (e_Lok (e_st (I := eI) (er_goto (off := 4) (tg := 119) (x_dk dn_403_0_2_ok 20 rfl) (by decide)) nx_goto))
  (e_Lok (ps_iconst_0 (x_dk dn_403_0_2_ok 21 rfl))))
  (e_Tok2
  (e_Lok (e_st (I := eI) (er_istore (i := 7) (x_dk dn_403_0_2_ok 22 rfl) (by decide +kernel)) nx_stor))
  (e_Lok (ld_aload_n_0 (x_dk dn_403_0_2_ok 23 rfl))))))
  (e_Tok2
  (e_Tok2
  (e_Lok (ps_iconst_0 (x_dk dn_403_0_2_ok 24 rfl)))
  (e_Tok2
  (e_Lok (ld_aload_n_0 (x_dk dn_403_0_3_ok 0 rfl)))
  (e_Lok (lk_12_8g ho_403 (x_dk dn_403_0_3_ok 1 rfl)))))
  (e_Tok2
  (e_Tok2
  (e_Lok (ld_iload_n_2 (x_dk dn_403_0_3_ok 2 rfl)))
  (e_Lok (lk_12_294 ho_403 (x_dk dn_403_0_3_ok 3 rfl))))
  (e_Tok2
  (e_Lok (ps_bipush_16 (x_dk dn_403_0_3_ok 4 rfl)))
  (e_Lok (sm_iadd (x_dk dn_403_0_3_ok 5 rfl))))))))
def te_403_81 : Nat → eE := (e_T 152 (e_T 139 (e_T 136 (e_T 134 (e_L 134 (0, ei_load 3 0 135, 0, 0)) (e_T 135 (e_L 135 (0, ei_bin eF_add 136, 0, 0)) (e_L 136 (0, ei_ald elay false 137, 0, 0)))) (e_T 137 (e_L 137 (0, ei_un (fun x => (4, x)) 138, 0, 0)) (e_T 138 (e_L 138 (0, ei_load 0 2 139, 0, 0)) (e_L 139 (0, ei_getf eft elay 12 17 142, 0, 0))))) (e_T 145 (e_T 142 (e_L 142 (0, ei_load 4 0 144, 0, 0)) (e_T 144 (e_L 144 (0, ei_ald elay false 145, 0, 0)) (e_L 145 (0, ei_un (fun x => (4, x)) 146, 0, 0)))) (e_T 147 (e_T 146 (e_L 146 (0, ei_load 0 2 147, 0, 0)) (e_L 147 (0, ei_getf eft elay 12 18 150, 0, 0))) (e_T 150 (e_L 150 (0, ei_load 4 0 152, 0, 0)) (e_L 152 (0, ei_ald elay false 153, 0, 0)))))) (e_T 166 (e_T 157 (e_T 153 (e_L 153 (0, ei_un (fun x => (4, x)) 154, 0, 0)) (e_T 154 (e_L 154 (2, e_nof, 266, 3)) (e_L 157 (0, ei_if1 0 165 160, 0, 0)))) (e_T 162 (e_T 160 (e_L 160 (0, ei_load 7 0 162, 0, 0)) (e_L 162 (0, ei_if1 0 169 165, 0, 0))) (e_T 165 (e_L 165 (0, ei_push (0, 1) 166, 0, 0)) (e_L 166 (0, ei_goto 170, 0, 0))))) (e_T 173 (e_T 169 (e_L 169 (0, ei_push (0, 0) 170, 0, 0)) (e_T 170 (e_L 170 (2, e_nof, 389, 3)) (e_L 173 (0, ei_inc 3 1 176, 0, 0)))) (e_T 179 (e_T 176 (e_L 176 (0, ei_goto 12, 0, 0)) (e_L 179 (0, ei_inc 2 1 182, 0, 0))) (e_T 182 (e_L 182 (0, ei_goto 2, 0, 0)) (e_L 185 (1, e_nof, 0, 0)))))))
set_option maxRecDepth 20000 in
set_option maxHeartbeats 4000000 in
theorem te_403_81_ok : ∀ pc, e_EOq eft cls elay eI n_403 pc (te_403_81 pc) :=
  (e_Tok2
  (e_Tok2
  (e_Tok2
  (e_Tok2
  (e_Lok (ld_iload_n_3 (x_dk dn_403_0_3_ok 6 rfl)))
  (e_Tok2
  (e_Lok (sm_iadd (x_dk dn_403_0_3_ok 7 rfl)))
  (e_Lok (sm_iaload (x_dk dn_403_0_3_ok 8 rfl)))))
  (e_Tok2
  (e_Lok (e_st (I := eI) (er_i2l (x_dk dn_403_0_3_ok 9 rfl)) (nx_un (fun _ => rfl))))
  (e_Tok2
  (e_Lok (ld_aload_n_0 (x_dk dn_403_0_3_ok 10 rfl)))
  (e_Lok (lk_12_49g ho_403 (x_dk dn_403_0_3_ok 11 rfl))))))
  (e_Tok2
  (e_Tok2
  (e_Lok (ld_iload_4 (x_dk dn_403_0_3_ok 12 rfl)))
  (e_Tok2
  (e_Lok (sm_iaload (x_dk dn_403_0_3_ok 13 rfl)))
  (e_Lok (e_st (I := eI) (er_i2l (x_dk dn_403_0_3_ok 14 rfl)) (nx_un (fun _ => rfl))))))
  (e_Tok2
  (e_Tok2
  (e_Lok (ld_aload_n_0 (x_dk dn_403_0_3_ok 15 rfl)))
  (e_Lok (lk_12_52g ho_403 (x_dk dn_403_0_3_ok 16 rfl))))
  (e_Tok2
  (e_Lok (ld_iload_4 (x_dk dn_403_0_3_ok 17 rfl)))
  (e_Lok (sm_iaload (x_dk dn_403_0_3_ok 18 rfl)))))))
  (e_Tok2
  (e_Tok2
  (e_Tok2
  (e_Lok (e_st (I := eI) (er_i2l (x_dk dn_403_0_3_ok 19 rfl)) (nx_un (fun _ => rfl))))
  (e_Tok2
  (e_Lok (lk_12_301 ho_403 (x_dk dn_403_0_3_ok 20 rfl)))
  (e_Lok (e_st (I := eI) (er_ifeq (off := 8) (tg := 165) (x_dk dn_403_0_3_ok 21 rfl) (by decide)) nx_if1))))
  (e_Tok2
  (e_Tok2
  (e_Lok (ld_iload_7 (x_dk dn_403_0_3_ok 22 rfl)))
  (e_Lok (e_st (I := eI) (er_ifeq (off := 7) (tg := 169) (x_dk dn_403_0_3_ok 23 rfl) (by decide)) nx_if1)))
  (e_Tok2
  (e_Lok (ps_iconst_1 (x_dk dn_403_0_3_ok 24 rfl)))
  (e_Lok (e_st (I := eI) (er_goto (off := 4) (tg := 170) (x_dk dn_403_1_0_ok 0 rfl) (by decide)) nx_goto)))))
  (e_Tok2
  (e_Tok2
  (e_Lok (ps_iconst_0 (x_dk dn_403_1_0_ok 1 rfl)))
  (e_Tok2
  (e_Lok (lk_12_765 ho_403 (x_dk dn_403_1_0_ok 2 rfl)))
  (e_Lok (e_st (I := eI) (er_iinc (i := 3) (n := 1) (x_dk dn_403_1_0_ok 3 rfl) (by decide +kernel) (by decide)) nx_inc))))
  (e_Tok2
  (e_Tok2
  (e_Lok (e_st (I := eI) (er_goto (off := (-164)) (tg := 12) (x_dk dn_403_1_0_ok 4 rfl) (by decide)) nx_goto))
  (e_Lok (e_st (I := eI) (er_iinc (i := 2) (n := 1) (x_dk dn_403_1_0_ok 5 rfl) (by decide +kernel) (by decide)) nx_inc)))
  (e_Tok2
  (e_Lok (e_st (I := eI) (er_goto (off := (-180)) (tg := 2) (x_dk dn_403_1_0_ok 6 rfl) (by decide)) nx_goto))
  (e_Lok (e_rt (I := eI) (k := 0) ⟨(x_dk dn_403_1_0_ok 7 rfl), rfl⟩)))))))
def te_403 : Nat → eE := (e_T 85 (e_T 41 te_403_0 te_403_27) (e_T 133 te_403_54 te_403_81))
theorem te_403_ok : ∀ pc, e_EOq eft cls elay eI n_403 pc (te_403 pc) := (e_Tok2 ((e_Tok2 (te_403_0_ok) (te_403_27_ok))) ((e_Tok2 (te_403_54_ok) (te_403_81_ok))))
end
end
-- part 41bh
section
noncomputable section
theorem ho_404 : (xm_y n_404).cls = "RobotCellHouseModel" := rfl
def dn_404_0_0 : List (Nat × Instr × Nat) := [(0, .iconst 0, 1), (1, .istore_n 1, 1), (2, .iload_n 1, 1), (3, .aload_n 0, 1), (4, .getfield 269, 3), (7, .if_icmp .ge 60, 3), (10, .aload_n 0, 1), (11, .iload_n 1, 1), (12, .bipush 7, 2), (14, .iload_n 1, 1), (15, .imul, 1), (16, .iconst 0, 1), (17, .invokevirtual 454, 3), (20, .istore_n 2, 1), (21, .iload_n 1, 1), (22, .iconst 1, 1), (23, .iadd, 1), (24, .istore_n 3, 1), (25, .iload_n 3, 1), (26, .aload_n 0, 1), (27, .getfield 269, 3), (30, .if_icmp .ge 25, 3), (33, .iload_n 2, 1), (34, .ifCond .ne 21, 3), (37, .aload_n 0, 1)]
set_option maxRecDepth 20000 in
theorem dn_404_0_0_ok : dn_404_0_0.all (fun q => decide (decode (xm_b n_404) q.1 = .ok (q.2.1, q.2.2))) = true := xa_g_ok (by decide +kernel)
def dn_404_0_1 : List (Nat × Instr × Nat) := [(38, .iload_n 1, 1), (39, .bipush 7, 2), (41, .iload_n 1, 1), (42, .imul, 1), (43, .iload_n 3, 1), (44, .iconst 0, 1), (45, .invokevirtual 458, 3), (48, .istore_n 2, 1), (49, .iinc 3 1, 3), (52, .goto (-27), 3), (55, .iload_n 2, 1), (56, .ifCond .eq 5, 3), (59, .iload_n 1, 1), (60, .ireturn, 1), (61, .iinc 1 1, 3), (64, .goto (-62), 3), (67, .iconst (-1), 1), (68, .ireturn, 1)]
set_option maxRecDepth 20000 in
theorem dn_404_0_1_ok : dn_404_0_1.all (fun q => decide (decode (xm_b n_404) q.1 = .ok (q.2.1, q.2.2))) = true := xa_g_ok (by decide +kernel)
def te_404_0 : Nat → eE := (e_T 14 (e_T 4 (e_T 1 (e_T 0 (e_L 0 (0, ei_push (0, 0) 1, 0, 0)) (e_L 1 (0, ei_stor 1 0 2, 0, 0))) (e_T 2 (e_L 2 (0, ei_load 1 0 3, 0, 0)) (e_T 3 (e_L 3 (0, ei_load 0 2 4, 0, 0)) (e_L 4 (0, ei_getf eft elay 12 10 7, 0, 0))))) (e_T 10 (e_T 7 (e_L 7 (0, ei_if2 3 67 10, 0, 0)) (e_L 10 (0, ei_load 0 2 11, 0, 0))) (e_T 11 (e_L 11 (0, ei_load 1 0 12, 0, 0)) (e_T 12 (e_L 12 (0, ei_push (0, 7) 14, 0, 0)) (e_L 14 (0, ei_load 1 0 15, 0, 0)))))) (e_T 21 (e_T 16 (e_T 15 (e_L 15 (0, ei_bin eF_mul 16, 0, 0)) (e_L 16 (0, ei_push (0, 0) 17, 0, 0))) (e_T 17 (e_L 17 (2, e_nof, 315, 4)) (e_T 20 (e_L 20 (0, ei_stor 2 0 21, 0, 0)) (e_L 21 (0, ei_load 1 0 22, 0, 0))))) (e_T 24 (e_T 22 (e_L 22 (0, ei_push (0, 1) 23, 0, 0)) (e_T 23 (e_L 23 (0, ei_bin eF_add 24, 0, 0)) (e_L 24 (0, ei_stor 3 0 25, 0, 0)))) (e_T 25 (e_L 25 (0, ei_load 3 0 26, 0, 0)) (e_T 26 (e_L 26 (0, ei_load 0 2 27, 0, 0)) (e_L 27 (0, ei_getf eft elay 12 10 30, 0, 0)))))))
set_option maxRecDepth 20000 in
set_option maxHeartbeats 4000000 in
theorem te_404_0_ok : ∀ pc, e_EOq eft cls elay eI n_404 pc (te_404_0 pc) :=
  (e_Tok2
  (e_Tok2
  (e_Tok2
  (e_Tok2
  (e_Lok (ps_iconst_0 (x_dk dn_404_0_0_ok 0 rfl)))
  (e_Lok (e_st (I := eI) (er_istore_n (i := 1) (x_dk dn_404_0_0_ok 1 rfl) (by decide +kernel)) nx_stor)))
  (e_Tok2
  (e_Lok (ld_iload_n_1 (x_dk dn_404_0_0_ok 2 rfl)))
  (e_Tok2
  (e_Lok (ld_aload_n_0 (x_dk dn_404_0_0_ok 3 rfl)))
  (e_Lok (lk_12_269g ho_404 (x_dk dn_404_0_0_ok 4 rfl))))))
  (e_Tok2
  (e_Tok2
  (e_Lok (e_st (I := eI) (er_icmpge (off := 60) (tg := 67) (x_dk dn_404_0_0_ok 5 rfl) (by decide)) nx_if2))
  (e_Lok (ld_aload_n_0 (x_dk dn_404_0_0_ok 6 rfl))))
  (e_Tok2
  (e_Lok (ld_iload_n_1 (x_dk dn_404_0_0_ok 7 rfl)))
  (e_Tok2
  (e_Lok (ps_bipush_7 (x_dk dn_404_0_0_ok 8 rfl)))
  (e_Lok (ld_iload_n_1 (x_dk dn_404_0_0_ok 9 rfl)))))))
  (e_Tok2
  (e_Tok2
  (e_Tok2
  (e_Lok (sm_imul (x_dk dn_404_0_0_ok 10 rfl)))
  (e_Lok (ps_iconst_0 (x_dk dn_404_0_0_ok 11 rfl))))
  (e_Tok2
  (e_Lok (lk_12_454 ho_404 (x_dk dn_404_0_0_ok 12 rfl)))
  (e_Tok2
  (e_Lok (e_st (I := eI) (er_istore_n (i := 2) (x_dk dn_404_0_0_ok 13 rfl) (by decide +kernel)) nx_stor))
  (e_Lok (ld_iload_n_1 (x_dk dn_404_0_0_ok 14 rfl))))))
  (e_Tok2
  (e_Tok2
  (e_Lok (ps_iconst_1 (x_dk dn_404_0_0_ok 15 rfl)))
  (e_Tok2
  (e_Lok (sm_iadd (x_dk dn_404_0_0_ok 16 rfl)))
  (e_Lok (e_st (I := eI) (er_istore_n (i := 3) (x_dk dn_404_0_0_ok 17 rfl) (by decide +kernel)) nx_stor))))
  (e_Tok2
  (e_Lok (ld_iload_n_3 (x_dk dn_404_0_0_ok 18 rfl)))
  (e_Tok2
  (e_Lok (ld_aload_n_0 (x_dk dn_404_0_0_ok 19 rfl)))
  (e_Lok (lk_12_269g ho_404 (x_dk dn_404_0_0_ok 20 rfl))))))))
def te_404_21 : Nat → eE := (e_T 45 (e_T 38 (e_T 33 (e_T 30 (e_L 30 (0, ei_if2 3 55 33, 0, 0)) (e_L 33 (0, ei_load 2 0 34, 0, 0))) (e_T 34 (e_L 34 (0, ei_if1 1 55 37, 0, 0)) (e_T 37 (e_L 37 (0, ei_load 0 2 38, 0, 0)) (e_L 38 (0, ei_load 1 0 39, 0, 0))))) (e_T 42 (e_T 39 (e_L 39 (0, ei_push (0, 7) 41, 0, 0)) (e_T 41 (e_L 41 (0, ei_load 1 0 42, 0, 0)) (e_L 42 (0, ei_bin eF_mul 43, 0, 0)))) (e_T 43 (e_L 43 (0, ei_load 3 0 44, 0, 0)) (e_T 44 (e_L 44 (0, ei_push (0, 0) 45, 0, 0)) (e_L 45 (2, e_nof, 316, 5)))))) (e_T 56 (e_T 49 (e_T 48 (e_L 48 (0, ei_stor 2 0 49, 0, 0)) (e_L 49 (0, ei_inc 3 1 52, 0, 0))) (e_T 52 (e_L 52 (0, ei_goto 25, 0, 0)) (e_T 55 (e_L 55 (0, ei_load 2 0 56, 0, 0)) (e_L 56 (0, ei_if1 0 61 59, 0, 0))))) (e_T 61 (e_T 59 (e_L 59 (0, ei_load 1 0 60, 0, 0)) (e_T 60 (e_L 60 (1, e_nof, 1, 0)) (e_L 61 (0, ei_inc 1 1 64, 0, 0)))) (e_T 64 (e_L 64 (0, ei_goto 2, 0, 0)) (e_T 67 (e_L 67 (0, ei_push (0, (-1)) 68, 0, 0)) (e_L 68 (1, e_nof, 1, 0)))))))
set_option maxRecDepth 20000 in
set_option maxHeartbeats 4000000 in
theorem te_404_21_ok : ∀ pc, e_EOq eft cls elay eI n_404 pc (te_404_21 pc) :=
  (e_Tok2
  (e_Tok2
  (e_Tok2
  (e_Tok2
  (e_Lok (e_st (I := eI) (er_icmpge (off := 25) (tg := 55) (x_dk dn_404_0_0_ok 21 rfl) (by decide)) nx_if2))
  (e_Lok (ld_iload_n_2 (x_dk dn_404_0_0_ok 22 rfl))))
  (e_Tok2
  (e_Lok (e_st (I := eI) (er_ifne (off := 21) (tg := 55) (x_dk dn_404_0_0_ok 23 rfl) (by decide)) nx_if1))
  (e_Tok2
  (e_Lok (ld_aload_n_0 (x_dk dn_404_0_0_ok 24 rfl)))
  (e_Lok (ld_iload_n_1 (x_dk dn_404_0_1_ok 0 rfl))))))
  (e_Tok2
  (e_Tok2
  (e_Lok (ps_bipush_7 (x_dk dn_404_0_1_ok 1 rfl)))
  (e_Tok2
  (e_Lok (ld_iload_n_1 (x_dk dn_404_0_1_ok 2 rfl)))
  (e_Lok (sm_imul (x_dk dn_404_0_1_ok 3 rfl)))))
  (e_Tok2
  (e_Lok (ld_iload_n_3 (x_dk dn_404_0_1_ok 4 rfl)))
  (e_Tok2
  (e_Lok (ps_iconst_0 (x_dk dn_404_0_1_ok 5 rfl)))
  (e_Lok (lk_12_458 ho_404 (x_dk dn_404_0_1_ok 6 rfl)))))))
  (e_Tok2
  (e_Tok2
  (e_Tok2
  (e_Lok (e_st (I := eI) (er_istore_n (i := 2) (x_dk dn_404_0_1_ok 7 rfl) (by decide +kernel)) nx_stor))
  (e_Lok (e_st (I := eI) (er_iinc (i := 3) (n := 1) (x_dk dn_404_0_1_ok 8 rfl) (by decide +kernel) (by decide)) nx_inc)))
  (e_Tok2
  (e_Lok (e_st (I := eI) (er_goto (off := (-27)) (tg := 25) (x_dk dn_404_0_1_ok 9 rfl) (by decide)) nx_goto))
  (e_Tok2
  (e_Lok (ld_iload_n_2 (x_dk dn_404_0_1_ok 10 rfl)))
  (e_Lok (e_st (I := eI) (er_ifeq (off := 5) (tg := 61) (x_dk dn_404_0_1_ok 11 rfl) (by decide)) nx_if1)))))
  (e_Tok2
  (e_Tok2
  (e_Lok (ld_iload_n_1 (x_dk dn_404_0_1_ok 12 rfl)))
  (e_Tok2
  (e_Lok (e_rt (I := eI) (k := 1) ⟨(x_dk dn_404_0_1_ok 13 rfl), rfl⟩))
  (e_Lok (e_st (I := eI) (er_iinc (i := 1) (n := 1) (x_dk dn_404_0_1_ok 14 rfl) (by decide +kernel) (by decide)) nx_inc))))
  (e_Tok2
  (e_Lok (e_st (I := eI) (er_goto (off := (-62)) (tg := 2) (x_dk dn_404_0_1_ok 15 rfl) (by decide)) nx_goto))
  (e_Tok2
  (e_Lok (ps_iconst_m1 (x_dk dn_404_0_1_ok 16 rfl)))
  (e_Lok (e_rt (I := eI) (k := 1) ⟨(x_dk dn_404_0_1_ok 17 rfl), rfl⟩)))))))
def te_404 : Nat → eE := (e_T 27 te_404_0 te_404_21)
theorem te_404_ok : ∀ pc, e_EOq eft cls elay eI n_404 pc (te_404 pc) := (e_Tok2 (te_404_0_ok) (te_404_21_ok))
theorem ho_405 : (xm_y n_405).cls = "RobotCellHouseModel" := rfl
def dn_405_0_0 : List (Nat × Instr × Nat) := [(0, .iconst 0, 1), (1, .istore_n 1, 1), (2, .iload_n 1, 1), (3, .aload_n 0, 1), (4, .getfield 282, 3), (7, .if_icmp .ge 218, 3), (10, .aload_n 0, 1), (11, .getfield 116, 3), (14, .iload_n 1, 1), (15, .iaload, 1), (16, .istore_n 2, 1), (17, .iconst 1, 1), (18, .istore_n 3, 1), (19, .iload_n 3, 1), (20, .aload_n 0, 1), (21, .getfield 43, 3), (24, .iload_n 2, 1), (25, .iaload, 1), (26, .if_icmp .gt 193, 3), (29, .aload_n 0, 1), (30, .getfield 149, 3), (33, .bipush 7, 2), (35, .iload_n 2, 1), (36, .imul, 1), (37, .iload_n 3, 1)]
set_option maxRecDepth 20000 in
theorem dn_405_0_0_ok : dn_405_0_0.all (fun q => decide (decode (xm_b n_405) q.1 = .ok (q.2.1, q.2.2))) = true := xa_g_ok (by decide +kernel)
def dn_405_0_1 : List (Nat × Instr × Nat) := [(38, .iadd, 1), (39, .iaload, 1), (40, .i2l, 1), (41, .lstore 4, 2), (43, .aload_n 0, 1), (44, .getfield 152, 3), (47, .bipush 7, 2), (49, .iload_n 2, 1), (50, .imul, 1), (51, .iload_n 3, 1), (52, .iadd, 1), (53, .iaload, 1), (54, .i2l, 1), (55, .lstore 6, 2), (57, .lload 4, 2), (59, .aload_n 0, 1), (60, .getfield 8, 3), (63, .sipush 20876, 3), (66, .bipush 14, 2), (68, .iload_n 2, 1), (69, .imul, 1), (70, .iadd, 1), (71, .iconst 2, 1), (72, .iload_n 3, 1), (73, .imul, 1)]
set_option maxRecDepth 20000 in
theorem dn_405_0_1_ok : dn_405_0_1.all (fun q => decide (decode (xm_b n_405) q.1 = .ok (q.2.1, q.2.2))) = true := xa_g_ok (by decide +kernel)
def dn_405_0_2 : List (Nat × Instr × Nat) := [(74, .iadd, 1), (75, .iaload, 1), (76, .i2l, 1), (77, .lsub, 1), (78, .lstore 8, 2), (80, .lload 6, 2), (82, .aload_n 0, 1), (83, .getfield 8, 3), (86, .sipush 20876, 3), (89, .bipush 14, 2), (91, .iload_n 2, 1), (92, .imul, 1), (93, .iadd, 1), (94, .iconst 2, 1), (95, .iload_n 3, 1), (96, .imul, 1), (97, .iadd, 1), (98, .iconst 1, 1), (99, .iadd, 1), (100, .iaload, 1), (101, .i2l, 1), (102, .lsub, 1), (103, .lstore 10, 2), (105, .aload_n 0, 1), (106, .getfield 131, 3)]
set_option maxRecDepth 20000 in
theorem dn_405_0_2_ok : dn_405_0_2.all (fun q => decide (decode (xm_b n_405) q.1 = .ok (q.2.1, q.2.2))) = true := xa_g_ok (by decide +kernel)
def dn_405_0_3 : List (Nat × Instr × Nat) := [(109, .iload_n 1, 1), (110, .iaload, 1), (111, .i2l, 1), (112, .lstore 12, 2), (114, .lload 4, 2), (116, .aload_n 0, 1), (117, .getfield 119, 3), (120, .iload_n 1, 1), (121, .iaload, 1), (122, .i2l, 1), (123, .aload_n 0, 1), (124, .getfield 119, 3), (127, .iload_n 1, 1), (128, .iaload, 1), (129, .aload_n 0, 1), (130, .getfield 125, 3), (133, .iload_n 1, 1), (134, .iaload, 1), (135, .iadd, 1), (136, .i2l, 1), (137, .invokestatic 301, 3), (140, .ifCond .eq 36, 3), (143, .lload 6, 2), (145, .aload_n 0, 1), (146, .getfield 122, 3)]
set_option maxRecDepth 20000 in
theorem dn_405_0_3_ok : dn_405_0_3.all (fun q => decide (decode (xm_b n_405) q.1 = .ok (q.2.1, q.2.2))) = true := xa_g_ok (by decide +kernel)
def dn_405_1_0 : List (Nat × Instr × Nat) := [(149, .iload_n 1, 1), (150, .iaload, 1), (151, .i2l, 1), (152, .aload_n 0, 1), (153, .getfield 122, 3), (156, .iload_n 1, 1), (157, .iaload, 1), (158, .aload_n 0, 1), (159, .getfield 128, 3), (162, .iload_n 1, 1), (163, .iaload, 1), (164, .iadd, 1), (165, .i2l, 1), (166, .invokestatic 301, 3), (169, .ifCond .eq 7, 3), (172, .iconst 1, 1), (173, .goto 4, 3), (176, .iconst 0, 1), (177, .istore 14, 2), (179, .iload 14, 2), (181, .ifCond .eq 32, 3), (184, .lload 12, 2), (186, .lconst 0, 1), (187, .lcmp, 1), (188, .ifCond .lt 23, 3)]
set_option maxRecDepth 20000 in
theorem dn_405_1_0_ok : dn_405_1_0.all (fun q => decide (decode (xm_b n_405) q.1 = .ok (q.2.1, q.2.2))) = true := xa_g_ok (by decide +kernel)
def dn_405_1_1 : List (Nat × Instr × Nat) := [(191, .lload 8, 2), (193, .lload 8, 2), (195, .lmul, 1), (196, .lload 10, 2), (198, .lload 10, 2), (200, .lmul, 1), (201, .ladd, 1), (202, .lload 12, 2), (204, .lload 12, 2), (206, .lmul, 1), (207, .lcmp, 1), (208, .ifCond .le 5, 3), (211, .iload_n 1, 1), (212, .ireturn, 1), (213, .iinc 3 1, 3), (216, .goto (-197), 3), (219, .iinc 1 1, 3), (222, .goto (-220), 3), (225, .iconst (-1), 1), (226, .ireturn, 1)]
set_option maxRecDepth 20000 in
theorem dn_405_1_1_ok : dn_405_1_1.all (fun q => decide (decode (xm_b n_405) q.1 = .ok (q.2.1, q.2.2))) = true := xa_g_ok (by decide +kernel)
def te_405_0 : Nat → eE := (e_T 25 (e_T 14 (e_T 3 (e_T 1 (e_T 0 (e_L 0 (0, ei_push (0, 0) 1, 0, 0)) (e_L 1 (0, ei_stor 1 0 2, 0, 0))) (e_T 2 (e_L 2 (0, ei_load 1 0 3, 0, 0)) (e_L 3 (0, ei_load 0 2 4, 0, 0)))) (e_T 7 (e_T 4 (e_L 4 (0, ei_getf eft elay 12 42 7, 0, 0)) (e_L 7 (0, ei_if2 3 225 10, 0, 0))) (e_T 10 (e_L 10 (0, ei_load 0 2 11, 0, 0)) (e_T 11 (e_L 11 (0, ei_getf eft elay 12 43 14, 0, 0)) (e_L 14 (0, ei_load 1 0 15, 0, 0)))))) (e_T 18 (e_T 16 (e_T 15 (e_L 15 (0, ei_ald elay false 16, 0, 0)) (e_L 16 (0, ei_stor 2 0 17, 0, 0))) (e_T 17 (e_L 17 (0, ei_push (0, 1) 18, 0, 0)) (e_L 18 (0, ei_stor 3 0 19, 0, 0)))) (e_T 20 (e_T 19 (e_L 19 (0, ei_load 3 0 20, 0, 0)) (e_L 20 (0, ei_load 0 2 21, 0, 0))) (e_T 21 (e_L 21 (0, ei_getf eft elay 12 15 24, 0, 0)) (e_T 24 (e_L 24 (0, ei_load 2 0 25, 0, 0)) (e_L 25 (0, ei_ald elay false 26, 0, 0))))))) (e_T 39 (e_T 33 (e_T 29 (e_T 26 (e_L 26 (0, ei_if2 4 219 29, 0, 0)) (e_L 29 (0, ei_load 0 2 30, 0, 0))) (e_T 30 (e_L 30 (0, ei_getf eft elay 12 55 33, 0, 0)) (e_L 33 (0, ei_push (0, 7) 35, 0, 0)))) (e_T 36 (e_T 35 (e_L 35 (0, ei_load 2 0 36, 0, 0)) (e_L 36 (0, ei_bin eF_mul 37, 0, 0))) (e_T 37 (e_L 37 (0, ei_load 3 0 38, 0, 0)) (e_T 38 (e_L 38 (0, ei_bin eF_add 39, 0, 0)) (e_L 39 (0, ei_ald elay false 40, 0, 0)))))) (e_T 44 (e_T 41 (e_T 40 (e_L 40 (0, ei_un (fun x => (4, x)) 41, 0, 0)) (e_L 41 (0, ei_stor 4 1 43, 0, 0))) (e_T 43 (e_L 43 (0, ei_load 0 2 44, 0, 0)) (e_L 44 (0, ei_getf eft elay 12 56 47, 0, 0)))) (e_T 49 (e_T 47 (e_L 47 (0, ei_push (0, 7) 49, 0, 0)) (e_L 49 (0, ei_load 2 0 50, 0, 0))) (e_T 50 (e_L 50 (0, ei_bin eF_mul 51, 0, 0)) (e_T 51 (e_L 51 (0, ei_load 3 0 52, 0, 0)) (e_L 52 (0, ei_bin eF_add 53, 0, 0))))))))
set_option maxRecDepth 20000 in
set_option maxHeartbeats 4000000 in
theorem te_405_0_ok : ∀ pc, e_EOq eft cls elay eI n_405 pc (te_405_0 pc) :=
  (e_Tok2
  (e_Tok2
  (e_Tok2
  (e_Tok2
  (e_Tok2
  (e_Lok (ps_iconst_0 (x_dk dn_405_0_0_ok 0 rfl)))
  (e_Lok (e_st (I := eI) (er_istore_n (i := 1) (x_dk dn_405_0_0_ok 1 rfl) (by decide +kernel)) nx_stor)))
  (e_Tok2
  (e_Lok (ld_iload_n_1 (x_dk dn_405_0_0_ok 2 rfl)))
  (e_Lok (ld_aload_n_0 (x_dk dn_405_0_0_ok 3 rfl)))))
  (e_Tok2
  (e_Tok2
  (e_Lok (lk_12_282g ho_405 (x_dk dn_405_0_0_ok 4 rfl)))
  (e_Lok (e_st (I := eI) (er_icmpge (off := 218) (tg := 225) (x_dk dn_405_0_0_ok 5 rfl) (by decide)) nx_if2)))
  (e_Tok2
  (e_Lok (ld_aload_n_0 (x_dk dn_405_0_0_ok 6 rfl)))
  (e_Tok2
  (e_Lok (lk_12_116g ho_405 (x_dk dn_405_0_0_ok 7 rfl)))
  (e_Lok (ld_iload_n_1 (x_dk dn_405_0_0_ok 8 rfl)))))))
  (e_Tok2
  (e_Tok2
  (e_Tok2
  (e_Lok (sm_iaload (x_dk dn_405_0_0_ok 9 rfl)))
  (e_Lok (e_st (I := eI) (er_istore_n (i := 2) (x_dk dn_405_0_0_ok 10 rfl) (by decide +kernel)) nx_stor)))
  (e_Tok2
  (e_Lok (ps_iconst_1 (x_dk dn_405_0_0_ok 11 rfl)))
  (e_Lok (e_st (I := eI) (er_istore_n (i := 3) (x_dk dn_405_0_0_ok 12 rfl) (by decide +kernel)) nx_stor))))
  (e_Tok2
  (e_Tok2
  (e_Lok (ld_iload_n_3 (x_dk dn_405_0_0_ok 13 rfl)))
  (e_Lok (ld_aload_n_0 (x_dk dn_405_0_0_ok 14 rfl))))
  (e_Tok2
  (e_Lok (lk_12_43g ho_405 (x_dk dn_405_0_0_ok 15 rfl)))
  (e_Tok2
  (e_Lok (ld_iload_n_2 (x_dk dn_405_0_0_ok 16 rfl)))
  (e_Lok (sm_iaload (x_dk dn_405_0_0_ok 17 rfl))))))))
  (e_Tok2
  (e_Tok2
  (e_Tok2
  (e_Tok2
  (e_Lok (e_st (I := eI) (er_icmpgt (off := 193) (tg := 219) (x_dk dn_405_0_0_ok 18 rfl) (by decide)) nx_if2))
  (e_Lok (ld_aload_n_0 (x_dk dn_405_0_0_ok 19 rfl))))
  (e_Tok2
  (e_Lok (lk_12_149g ho_405 (x_dk dn_405_0_0_ok 20 rfl)))
  (e_Lok (ps_bipush_7 (x_dk dn_405_0_0_ok 21 rfl)))))
  (e_Tok2
  (e_Tok2
  (e_Lok (ld_iload_n_2 (x_dk dn_405_0_0_ok 22 rfl)))
  (e_Lok (sm_imul (x_dk dn_405_0_0_ok 23 rfl))))
  (e_Tok2
  (e_Lok (ld_iload_n_3 (x_dk dn_405_0_0_ok 24 rfl)))
  (e_Tok2
  (e_Lok (sm_iadd (x_dk dn_405_0_1_ok 0 rfl)))
  (e_Lok (sm_iaload (x_dk dn_405_0_1_ok 1 rfl)))))))
  (e_Tok2
  (e_Tok2
  (e_Tok2
  (e_Lok (e_st (I := eI) (er_i2l (x_dk dn_405_0_1_ok 2 rfl)) (nx_un (fun _ => rfl))))
  (e_Lok (e_st (I := eI) (er_lstore (i := 4) (x_dk dn_405_0_1_ok 3 rfl) (by decide +kernel)) nx_stor)))
  (e_Tok2
  (e_Lok (ld_aload_n_0 (x_dk dn_405_0_1_ok 4 rfl)))
  (e_Lok (lk_12_152g ho_405 (x_dk dn_405_0_1_ok 5 rfl)))))
  (e_Tok2
  (e_Tok2
  (e_Lok (ps_bipush_7 (x_dk dn_405_0_1_ok 6 rfl)))
  (e_Lok (ld_iload_n_2 (x_dk dn_405_0_1_ok 7 rfl))))
  (e_Tok2
  (e_Lok (sm_imul (x_dk dn_405_0_1_ok 8 rfl)))
  (e_Tok2
  (e_Lok (ld_iload_n_3 (x_dk dn_405_0_1_ok 9 rfl)))
  (e_Lok (sm_iadd (x_dk dn_405_0_1_ok 10 rfl)))))))))
def te_405_36 : Nat → eE := (e_T 77 (e_T 68 (e_T 57 (e_T 54 (e_T 53 (e_L 53 (0, ei_ald elay false 54, 0, 0)) (e_L 54 (0, ei_un (fun x => (4, x)) 55, 0, 0))) (e_T 55 (e_L 55 (0, ei_stor 6 1 57, 0, 0)) (e_L 57 (0, ei_load 4 1 59, 0, 0)))) (e_T 60 (e_T 59 (e_L 59 (0, ei_load 0 2 60, 0, 0)) (e_L 60 (0, ei_getf eft elay 12 0 63, 0, 0))) (e_T 63 (e_L 63 (0, ei_push (0, 20876) 66, 0, 0)) (e_T 66 (e_L 66 (0, ei_push (0, 14) 68, 0, 0)) (e_L 68 (0, ei_load 2 0 69, 0, 0)))))) (e_T 72 (e_T 70 (e_T 69 (e_L 69 (0, ei_bin eF_mul 70, 0, 0)) (e_L 70 (0, ei_bin eF_add 71, 0, 0))) (e_T 71 (e_L 71 (0, ei_push (0, 2) 72, 0, 0)) (e_L 72 (0, ei_load 3 0 73, 0, 0)))) (e_T 74 (e_T 73 (e_L 73 (0, ei_bin eF_mul 74, 0, 0)) (e_L 74 (0, ei_bin eF_add 75, 0, 0))) (e_T 75 (e_L 75 (0, ei_ald elay false 76, 0, 0)) (e_T 76 (e_L 76 (0, ei_un (fun x => (4, x)) 77, 0, 0)) (e_L 77 (0, ei_binL eG_sub 78, 0, 0))))))) (e_T 93 (e_T 83 (e_T 80 (e_T 78 (e_L 78 (0, ei_stor 8 1 80, 0, 0)) (e_L 80 (0, ei_load 6 1 82, 0, 0))) (e_T 82 (e_L 82 (0, ei_load 0 2 83, 0, 0)) (e_L 83 (0, ei_getf eft elay 12 0 86, 0, 0)))) (e_T 89 (e_T 86 (e_L 86 (0, ei_push (0, 20876) 89, 0, 0)) (e_L 89 (0, ei_push (0, 14) 91, 0, 0))) (e_T 91 (e_L 91 (0, ei_load 2 0 92, 0, 0)) (e_T 92 (e_L 92 (0, ei_bin eF_mul 93, 0, 0)) (e_L 93 (0, ei_bin eF_add 94, 0, 0)))))) (e_T 97 (e_T 95 (e_T 94 (e_L 94 (0, ei_push (0, 2) 95, 0, 0)) (e_L 95 (0, ei_load 3 0 96, 0, 0))) (e_T 96 (e_L 96 (0, ei_bin eF_mul 97, 0, 0)) (e_L 97 (0, ei_bin eF_add 98, 0, 0)))) (e_T 99 (e_T 98 (e_L 98 (0, ei_push (0, 1) 99, 0, 0)) (e_L 99 (0, ei_bin eF_add 100, 0, 0))) (e_T 100 (e_L 100 (0, ei_ald elay false 101, 0, 0)) (e_T 101 (e_L 101 (0, ei_un (fun x => (4, x)) 102, 0, 0)) (e_L 102 (0, ei_binL eG_sub 103, 0, 0))))))))
set_option maxRecDepth 20000 in
set_option maxHeartbeats 4000000 in
theorem te_405_36_ok : ∀ pc, e_EOq eft cls elay eI n_405 pc (te_405_36 pc) :=
  (e_Tok2
  (e_Tok2
  (e_Tok2
  (e_Tok2
  (e_Tok2
  (e_Lok (sm_iaload (x_dk dn_405_0_1_ok 11 rfl)))
  (e_Lok (e_st (I := eI) (er_i2l (x_dk dn_405_0_1_ok 12 rfl)) (nx_un (fun _ => rfl)))))
  (e_Tok2
  (e_Lok (e_st (I := eI) (er_lstore (i := 6) (x_dk dn_405_0_1_ok 13 rfl) (by decide +kernel)) nx_stor))
  (e_Lok (ld_lload_4 (x_dk dn_405_0_1_ok 14 rfl)))))
  (e_Tok2
  (e_Tok2
  (e_Lok (ld_aload_n_0 (x_dk dn_405_0_1_ok 15 rfl)))
  (e_Lok (lk_12_8g ho_405 (x_dk dn_405_0_1_ok 16 rfl))))
  (e_Tok2
  (e_Lok (ps_sipush_20876 (x_dk dn_405_0_1_ok 17 rfl)))
  (e_Tok2
  (e_Lok (ps_bipush_14 (x_dk dn_405_0_1_ok 18 rfl)))
  (e_Lok (ld_iload_n_2 (x_dk dn_405_0_1_ok 19 rfl)))))))
  (e_Tok2
  (e_Tok2
  (e_Tok2
  (e_Lok (sm_imul (x_dk dn_405_0_1_ok 20 rfl)))
  (e_Lok (sm_iadd (x_dk dn_405_0_1_ok 21 rfl))))
  (e_Tok2
  (e_Lok (ps_iconst_2 (x_dk dn_405_0_1_ok 22 rfl)))
  (e_Lok (ld_iload_n_3 (x_dk dn_405_0_1_ok 23 rfl)))))
  (e_Tok2
  (e_Tok2
  (e_Lok (sm_imul (x_dk dn_405_0_1_ok 24 rfl)))
  (e_Lok (sm_iadd (x_dk dn_405_0_2_ok 0 rfl))))
  (e_Tok2
  (e_Lok (sm_iaload (x_dk dn_405_0_2_ok 1 rfl)))
  (e_Tok2
  (e_Lok (e_st (I := eI) (er_i2l (x_dk dn_405_0_2_ok 2 rfl)) (nx_un (fun _ => rfl))))
  (e_Lok (e_st (I := eI) (er_lsub (x_dk dn_405_0_2_ok 3 rfl)) (nx_binL bG_lsub))))))))
  (e_Tok2
  (e_Tok2
  (e_Tok2
  (e_Tok2
  (e_Lok (e_st (I := eI) (er_lstore (i := 8) (x_dk dn_405_0_2_ok 4 rfl) (by decide +kernel)) nx_stor))
  (e_Lok (ld_lload_6 (x_dk dn_405_0_2_ok 5 rfl))))
  (e_Tok2
  (e_Lok (ld_aload_n_0 (x_dk dn_405_0_2_ok 6 rfl)))
  (e_Lok (lk_12_8g ho_405 (x_dk dn_405_0_2_ok 7 rfl)))))
  (e_Tok2
  (e_Tok2
  (e_Lok (ps_sipush_20876 (x_dk dn_405_0_2_ok 8 rfl)))
  (e_Lok (ps_bipush_14 (x_dk dn_405_0_2_ok 9 rfl))))
  (e_Tok2
  (e_Lok (ld_iload_n_2 (x_dk dn_405_0_2_ok 10 rfl)))
  (e_Tok2
  (e_Lok (sm_imul (x_dk dn_405_0_2_ok 11 rfl)))
  (e_Lok (sm_iadd (x_dk dn_405_0_2_ok 12 rfl)))))))
  (e_Tok2
  (e_Tok2
  (e_Tok2
  (e_Lok (ps_iconst_2 (x_dk dn_405_0_2_ok 13 rfl)))
  (e_Lok (ld_iload_n_3 (x_dk dn_405_0_2_ok 14 rfl))))
  (e_Tok2
  (e_Lok (sm_imul (x_dk dn_405_0_2_ok 15 rfl)))
  (e_Lok (sm_iadd (x_dk dn_405_0_2_ok 16 rfl)))))
  (e_Tok2
  (e_Tok2
  (e_Lok (ps_iconst_1 (x_dk dn_405_0_2_ok 17 rfl)))
  (e_Lok (sm_iadd (x_dk dn_405_0_2_ok 18 rfl))))
  (e_Tok2
  (e_Lok (sm_iaload (x_dk dn_405_0_2_ok 19 rfl)))
  (e_Tok2
  (e_Lok (e_st (I := eI) (er_i2l (x_dk dn_405_0_2_ok 20 rfl)) (nx_un (fun _ => rfl))))
  (e_Lok (e_st (I := eI) (er_lsub (x_dk dn_405_0_2_ok 21 rfl)) (nx_binL bG_lsub)))))))))
def te_405_72 : Nat → eE := (e_T 129 (e_T 116 (e_T 109 (e_T 105 (e_T 103 (e_L 103 (0, ei_stor 10 1 105, 0, 0)) (e_L 105 (0, ei_load 0 2 106, 0, 0))) (e_T 106 (e_L 106 (0, ei_getf eft elay 12 48 109, 0, 0)) (e_L 109 (0, ei_load 1 0 110, 0, 0)))) (e_T 111 (e_T 110 (e_L 110 (0, ei_ald elay false 111, 0, 0)) (e_L 111 (0, ei_un (fun x => (4, x)) 112, 0, 0))) (e_T 112 (e_L 112 (0, ei_stor 12 1 114, 0, 0)) (e_T 114 (e_L 114 (0, ei_load 4 1 116, 0, 0)) (e_L 116 (0, ei_load 0 2 117, 0, 0)))))) (e_T 122 (e_T 120 (e_T 117 (e_L 117 (0, ei_getf eft elay 12 44 120, 0, 0)) (e_L 120 (0, ei_load 1 0 121, 0, 0))) (e_T 121 (e_L 121 (0, ei_ald elay false 122, 0, 0)) (e_L 122 (0, ei_un (fun x => (4, x)) 123, 0, 0)))) (e_T 124 (e_T 123 (e_L 123 (0, ei_load 0 2 124, 0, 0)) (e_L 124 (0, ei_getf eft elay 12 44 127, 0, 0))) (e_T 127 (e_L 127 (0, ei_load 1 0 128, 0, 0)) (e_T 128 (e_L 128 (0, ei_ald elay false 129, 0, 0)) (e_L 129 (0, ei_load 0 2 130, 0, 0))))))) (e_T 145 (e_T 135 (e_T 133 (e_T 130 (e_L 130 (0, ei_getf eft elay 12 46 133, 0, 0)) (e_L 133 (0, ei_load 1 0 134, 0, 0))) (e_T 134 (e_L 134 (0, ei_ald elay false 135, 0, 0)) (e_L 135 (0, ei_bin eF_add 136, 0, 0)))) (e_T 137 (e_T 136 (e_L 136 (0, ei_un (fun x => (4, x)) 137, 0, 0)) (e_L 137 (2, e_nof, 266, 3))) (e_T 140 (e_L 140 (0, ei_if1 0 176 143, 0, 0)) (e_T 143 (e_L 143 (0, ei_load 6 1 145, 0, 0)) (e_L 145 (0, ei_load 0 2 146, 0, 0)))))) (e_T 151 (e_T 149 (e_T 146 (e_L 146 (0, ei_getf eft elay 12 45 149, 0, 0)) (e_L 149 (0, ei_load 1 0 150, 0, 0))) (e_T 150 (e_L 150 (0, ei_ald elay false 151, 0, 0)) (e_L 151 (0, ei_un (fun x => (4, x)) 152, 0, 0)))) (e_T 153 (e_T 152 (e_L 152 (0, ei_load 0 2 153, 0, 0)) (e_L 153 (0, ei_getf eft elay 12 45 156, 0, 0))) (e_T 156 (e_L 156 (0, ei_load 1 0 157, 0, 0)) (e_T 157 (e_L 157 (0, ei_ald elay false 158, 0, 0)) (e_L 158 (0, ei_load 0 2 159, 0, 0))))))))
set_option maxRecDepth 20000 in
set_option maxHeartbeats 4000000 in
theorem te_405_72_ok : ∀ pc, e_EOq eft cls elay eI n_405 pc (te_405_72 pc) :=
  (e_Tok2
  (e_Tok2
  (e_Tok2
  (e_Tok2
  (e_Tok2
  (e_Lok (e_st (I := eI) (er_lstore (i := 10) (x_dk dn_405_0_2_ok 22 rfl) (by decide +kernel)) nx_stor))
  (e_Lok (ld_aload_n_0 (x_dk dn_405_0_2_ok 23 rfl))))
  (e_Tok2
  (e_Lok (lk_12_131g ho_405 (x_dk dn_405_0_2_ok 24 rfl)))
  (e_Lok (ld_iload_n_1 (x_dk dn_405_0_3_ok 0 rfl)))))
  (e_Tok2
  (e_Tok2
  (e_Lok (sm_iaload (x_dk dn_405_0_3_ok 1 rfl)))
  (e_Lok (e_st (I := eI) (er_i2l (x_dk dn_405_0_3_ok 2 rfl)) (nx_un (fun _ => rfl)))))
  (e_Tok2
  (e_Lok (e_st (I := eI) (er_lstore (i := 12) (x_dk dn_405_0_3_ok 3 rfl) (by decide +kernel)) nx_stor))
  (e_Tok2
  (e_Lok (ld_lload_4 (x_dk dn_405_0_3_ok 4 rfl)))
  (e_Lok (ld_aload_n_0 (x_dk dn_405_0_3_ok 5 rfl)))))))
  (e_Tok2
  (e_Tok2
  (e_Tok2
  (e_Lok (lk_12_119g ho_405 (x_dk dn_405_0_3_ok 6 rfl)))
  (e_Lok (ld_iload_n_1 (x_dk dn_405_0_3_ok 7 rfl))))
  (e_Tok2
  (e_Lok (sm_iaload (x_dk dn_405_0_3_ok 8 rfl)))
  (e_Lok (e_st (I := eI) (er_i2l (x_dk dn_405_0_3_ok 9 rfl)) (nx_un (fun _ => rfl))))))
  (e_Tok2
  (e_Tok2
  (e_Lok (ld_aload_n_0 (x_dk dn_405_0_3_ok 10 rfl)))
  (e_Lok (lk_12_119g ho_405 (x_dk dn_405_0_3_ok 11 rfl))))
  (e_Tok2
  (e_Lok (ld_iload_n_1 (x_dk dn_405_0_3_ok 12 rfl)))
  (e_Tok2
  (e_Lok (sm_iaload (x_dk dn_405_0_3_ok 13 rfl)))
  (e_Lok (ld_aload_n_0 (x_dk dn_405_0_3_ok 14 rfl))))))))
  (e_Tok2
  (e_Tok2
  (e_Tok2
  (e_Tok2
  (e_Lok (lk_12_125g ho_405 (x_dk dn_405_0_3_ok 15 rfl)))
  (e_Lok (ld_iload_n_1 (x_dk dn_405_0_3_ok 16 rfl))))
  (e_Tok2
  (e_Lok (sm_iaload (x_dk dn_405_0_3_ok 17 rfl)))
  (e_Lok (sm_iadd (x_dk dn_405_0_3_ok 18 rfl)))))
  (e_Tok2
  (e_Tok2
  (e_Lok (e_st (I := eI) (er_i2l (x_dk dn_405_0_3_ok 19 rfl)) (nx_un (fun _ => rfl))))
  (e_Lok (lk_12_301 ho_405 (x_dk dn_405_0_3_ok 20 rfl))))
  (e_Tok2
  (e_Lok (e_st (I := eI) (er_ifeq (off := 36) (tg := 176) (x_dk dn_405_0_3_ok 21 rfl) (by decide)) nx_if1))
  (e_Tok2
  (e_Lok (ld_lload_6 (x_dk dn_405_0_3_ok 22 rfl)))
  (e_Lok (ld_aload_n_0 (x_dk dn_405_0_3_ok 23 rfl)))))))
  (e_Tok2
  (e_Tok2
  (e_Tok2
  (e_Lok (lk_12_122g ho_405 (x_dk dn_405_0_3_ok 24 rfl)))
  (e_Lok (ld_iload_n_1 (x_dk dn_405_1_0_ok 0 rfl))))
  (e_Tok2
  (e_Lok (sm_iaload (x_dk dn_405_1_0_ok 1 rfl)))
  (e_Lok (e_st (I := eI) (er_i2l (x_dk dn_405_1_0_ok 2 rfl)) (nx_un (fun _ => rfl))))))
  (e_Tok2
  (e_Tok2
  (e_Lok (ld_aload_n_0 (x_dk dn_405_1_0_ok 3 rfl)))
  (e_Lok (lk_12_122g ho_405 (x_dk dn_405_1_0_ok 4 rfl))))
  (e_Tok2
  (e_Lok (ld_iload_n_1 (x_dk dn_405_1_0_ok 5 rfl)))
  (e_Tok2
  (e_Lok (sm_iaload (x_dk dn_405_1_0_ok 6 rfl)))
  (e_Lok (ld_aload_n_0 (x_dk dn_405_1_0_ok 7 rfl)))))))))
def te_405_108 : Nat → eE := (e_T 191 (e_T 173 (e_T 164 (e_T 162 (e_T 159 (e_L 159 (0, ei_getf eft elay 12 47 162, 0, 0)) (e_L 162 (0, ei_load 1 0 163, 0, 0))) (e_T 163 (e_L 163 (0, ei_ald elay false 164, 0, 0)) (e_L 164 (0, ei_bin eF_add 165, 0, 0)))) (e_T 166 (e_T 165 (e_L 165 (0, ei_un (fun x => (4, x)) 166, 0, 0)) (e_L 166 (2, e_nof, 266, 3))) (e_T 169 (e_L 169 (0, ei_if1 0 176 172, 0, 0)) (e_T 172 (e_L 172 (0, ei_push (0, 1) 173, 0, 0)) (e_L 173 (0, ei_goto 177, 0, 0)))))) (e_T 181 (e_T 177 (e_T 176 (e_L 176 (0, ei_push (0, 0) 177, 0, 0)) (e_L 177 (0, ei_stor 14 0 179, 0, 0))) (e_T 179 (e_L 179 (0, ei_load 14 0 181, 0, 0)) (e_L 181 (0, ei_if1 0 213 184, 0, 0)))) (e_T 186 (e_T 184 (e_L 184 (0, ei_load 12 1 186, 0, 0)) (e_L 186 (0, ei_push (4, 0) 187, 0, 0))) (e_T 187 (e_L 187 (0, ei_binL eG_cmp 188, 0, 0)) (e_T 188 (e_L 188 (0, ei_if1 2 211 191, 0, 0)) (e_L 191 (0, ei_load 8 1 193, 0, 0))))))) (e_T 206 (e_T 198 (e_T 195 (e_T 193 (e_L 193 (0, ei_load 8 1 195, 0, 0)) (e_L 195 (0, ei_binL eG_mul 196, 0, 0))) (e_T 196 (e_L 196 (0, ei_load 10 1 198, 0, 0)) (e_L 198 (0, ei_load 10 1 200, 0, 0)))) (e_T 201 (e_T 200 (e_L 200 (0, ei_binL eG_mul 201, 0, 0)) (e_L 201 (0, ei_binL eG_add 202, 0, 0))) (e_T 202 (e_L 202 (0, ei_load 12 1 204, 0, 0)) (e_T 204 (e_L 204 (0, ei_load 12 1 206, 0, 0)) (e_L 206 (0, ei_binL eG_mul 207, 0, 0)))))) (e_T 213 (e_T 208 (e_T 207 (e_L 207 (0, ei_binL eG_cmp 208, 0, 0)) (e_L 208 (0, ei_if1 5 213 211, 0, 0))) (e_T 211 (e_L 211 (0, ei_load 1 0 212, 0, 0)) (e_T 212 (e_L 212 (1, e_nof, 1, 0)) (e_L 213 (0, ei_inc 3 1 216, 0, 0))))) (e_T 219 (e_T 216 (e_L 216 (0, ei_goto 19, 0, 0)) (e_L 219 (0, ei_inc 1 1 222, 0, 0))) (e_T 222 (e_L 222 (0, ei_goto 2, 0, 0)) (e_T 225 (e_L 225 (0, ei_push (0, (-1)) 226, 0, 0)) (e_L 226 (1, e_nof, 1, 0))))))))
set_option maxRecDepth 20000 in
set_option maxHeartbeats 4000000 in
theorem te_405_108_ok : ∀ pc, e_EOq eft cls elay eI n_405 pc (te_405_108 pc) :=
  (e_Tok2
  (e_Tok2
  (e_Tok2
  (e_Tok2
  (e_Tok2
  (e_Lok (lk_12_128g ho_405 (x_dk dn_405_1_0_ok 8 rfl)))
  (e_Lok (ld_iload_n_1 (x_dk dn_405_1_0_ok 9 rfl))))
  (e_Tok2
  (e_Lok (sm_iaload (x_dk dn_405_1_0_ok 10 rfl)))
  (e_Lok (sm_iadd (x_dk dn_405_1_0_ok 11 rfl)))))
  (e_Tok2
  (e_Tok2
  (e_Lok (e_st (I := eI) (er_i2l (x_dk dn_405_1_0_ok 12 rfl)) (nx_un (fun _ => rfl))))
  (e_Lok (lk_12_301 ho_405 (x_dk dn_405_1_0_ok 13 rfl))))
  (e_Tok2
  (e_Lok (e_st (I := eI) (er_ifeq (off := 7) (tg := 176) (x_dk dn_405_1_0_ok 14 rfl) (by decide)) nx_if1))
  (e_Tok2
  (e_Lok (ps_iconst_1 (x_dk dn_405_1_0_ok 15 rfl)))
  (e_Lok (e_st (I := eI) (er_goto (off := 4) (tg := 177) (x_dk dn_405_1_0_ok 16 rfl) (by decide)) nx_goto))))))
  (e_Tok2
  (e_Tok2
  (e_Tok2
  (e_Lok (ps_iconst_0 (x_dk dn_405_1_0_ok 17 rfl)))
  (e_Lok (e_st (I := eI) (er_istore (i := 14) (x_dk dn_405_1_0_ok 18 rfl) (by decide +kernel)) nx_stor)))
  (e_Tok2
  (e_Lok (ld_iload_14 (x_dk dn_405_1_0_ok 19 rfl)))
  (e_Lok (e_st (I := eI) (er_ifeq (off := 32) (tg := 213) (x_dk dn_405_1_0_ok 20 rfl) (by decide)) nx_if1))))
  (e_Tok2
  (e_Tok2
  (e_Lok (ld_lload_12 (x_dk dn_405_1_0_ok 21 rfl)))
  (e_Lok (ps_lconst_0 (x_dk dn_405_1_0_ok 22 rfl))))
  (e_Tok2
  (e_Lok (e_st (I := eI) (er_lcmp (x_dk dn_405_1_0_ok 23 rfl)) (nx_binL bG_lcmp)))
  (e_Tok2
  (e_Lok (e_st (I := eI) (er_iflt (off := 23) (tg := 211) (x_dk dn_405_1_0_ok 24 rfl) (by decide)) nx_if1))
  (e_Lok (ld_lload_8 (x_dk dn_405_1_1_ok 0 rfl))))))))
  (e_Tok2
  (e_Tok2
  (e_Tok2
  (e_Tok2
  (e_Lok (ld_lload_8 (x_dk dn_405_1_1_ok 1 rfl)))
  (e_Lok (e_st (I := eI) (er_lmul (x_dk dn_405_1_1_ok 2 rfl)) (nx_binL bG_lmul))))
  (e_Tok2
  (e_Lok (ld_lload_10 (x_dk dn_405_1_1_ok 3 rfl)))
  (e_Lok (ld_lload_10 (x_dk dn_405_1_1_ok 4 rfl)))))
  (e_Tok2
  (e_Tok2
  (e_Lok (e_st (I := eI) (er_lmul (x_dk dn_405_1_1_ok 5 rfl)) (nx_binL bG_lmul)))
  (e_Lok (e_st (I := eI) (er_ladd (x_dk dn_405_1_1_ok 6 rfl)) (nx_binL bG_ladd))))
  (e_Tok2
  (e_Lok (ld_lload_12 (x_dk dn_405_1_1_ok 7 rfl)))
  (e_Tok2
  (e_Lok (ld_lload_12 (x_dk dn_405_1_1_ok 8 rfl)))
  (e_Lok (e_st (I := eI) (er_lmul (x_dk dn_405_1_1_ok 9 rfl)) (nx_binL bG_lmul)))))))
  (e_Tok2
  (e_Tok2
  (e_Tok2
  (e_Lok (e_st (I := eI) (er_lcmp (x_dk dn_405_1_1_ok 10 rfl)) (nx_binL bG_lcmp)))
  (e_Lok (e_st (I := eI) (er_ifle (off := 5) (tg := 213) (x_dk dn_405_1_1_ok 11 rfl) (by decide)) nx_if1)))
  (e_Tok2
  (e_Lok (ld_iload_n_1 (x_dk dn_405_1_1_ok 12 rfl)))
  (e_Tok2
  (e_Lok (e_rt (I := eI) (k := 1) ⟨(x_dk dn_405_1_1_ok 13 rfl), rfl⟩))
  (e_Lok (e_st (I := eI) (er_iinc (i := 3) (n := 1) (x_dk dn_405_1_1_ok 14 rfl) (by decide +kernel) (by decide)) nx_inc)))))
  (e_Tok2
  (e_Tok2
  (e_Lok (e_st (I := eI) (er_goto (off := (-197)) (tg := 19) (x_dk dn_405_1_1_ok 15 rfl) (by decide)) nx_goto))
  (e_Lok (e_st (I := eI) (er_iinc (i := 1) (n := 1) (x_dk dn_405_1_1_ok 16 rfl) (by decide +kernel) (by decide)) nx_inc)))
  (e_Tok2
  (e_Lok (e_st (I := eI) (er_goto (off := (-220)) (tg := 2) (x_dk dn_405_1_1_ok 17 rfl) (by decide)) nx_goto))
  (e_Tok2
  (e_Lok (ps_iconst_m1 (x_dk dn_405_1_1_ok 18 rfl)))
  (e_Lok (e_rt (I := eI) (k := 1) ⟨(x_dk dn_405_1_1_ok 19 rfl), rfl⟩))))))))
def te_405 : Nat → eE := (e_T 102 (e_T 52 te_405_0 te_405_36) (e_T 158 te_405_72 te_405_108))
theorem te_405_ok : ∀ pc, e_EOq eft cls elay eI n_405 pc (te_405 pc) := (e_Tok2 ((e_Tok2 (te_405_0_ok) (te_405_36_ok))) ((e_Tok2 (te_405_72_ok) (te_405_108_ok))))
theorem ho_406 : (xm_y n_406).cls = "RobotCellHouseModel" := rfl
def dn_406_0_0 : List (Nat × Instr × Nat) := [(0, .aload_n 0, 1), (1, .invokevirtual 786, 3), (4, .istore_n 1, 1), (5, .iconst 0, 1), (6, .istore_n 2, 1), (7, .iload_n 2, 1), (8, .aload_n 0, 1), (9, .getfield 269, 3), (12, .if_icmp .ge 73, 3), (15, .aload_n 0, 1), (16, .getfield 8, 3), (19, .iload_n 2, 1), (20, .invokestatic 294, 3), (23, .bipush 6, 2), (25, .iadd, 1), (26, .iaload, 1), (27, .iconst 1, 1), (28, .if_icmp .ne 22, 3), (31, .aload_n 0, 1), (32, .getfield 8, 3), (35, .iload_n 2, 1), (36, .invokestatic 294, 3), (39, .iconst 5, 1), (40, .iadd, 1), (41, .iaload, 1)]
set_option maxRecDepth 20000 in
theorem dn_406_0_0_ok : dn_406_0_0.all (fun q => decide (decode (xm_b n_406) q.1 = .ok (q.2.1, q.2.2))) = true := xa_g_ok (by decide +kernel)
def dn_406_0_1 : List (Nat × Instr × Nat) := [(42, .iconst 1, 1), (43, .if_icmp .ne 7, 3), (46, .iconst 1, 1), (47, .goto 4, 3), (50, .iconst 0, 1), (51, .istore_n 3, 1), (52, .aload_n 0, 1), (53, .iconst 2, 1), (54, .iload_n 3, 1), (55, .ifCond .eq 20, 3), (58, .aload_n 0, 1), (59, .iload_n 2, 1), (60, .bipush 7, 2), (62, .iload_n 2, 1), (63, .imul, 1), (64, .iconst 0, 1), (65, .invokevirtual 461, 3), (68, .ifCond .eq 7, 3), (71, .iconst 1, 1), (72, .goto 4, 3), (75, .iconst 0, 1), (76, .invokevirtual 765, 3), (79, .iinc 2 1, 3), (82, .goto (-75), 3), (85, .iload_n 1, 1)]
set_option maxRecDepth 20000 in
theorem dn_406_0_1_ok : dn_406_0_1.all (fun q => decide (decode (xm_b n_406) q.1 = .ok (q.2.1, q.2.2))) = true := xa_g_ok (by decide +kernel)
def dn_406_0_2 : List (Nat × Instr × Nat) := [(86, .ifCond .lt 10, 3), (89, .aload_n 0, 1), (90, .iconst 2, 1), (91, .iload_n 1, 1), (92, .invokevirtual 789, 3), (95, .return_, 1), (96, .aload_n 0, 1), (97, .invokevirtual 792, 3), (100, .istore_n 2, 1), (101, .iload_n 2, 1), (102, .ifCond .lt 9, 3), (105, .aload_n 0, 1), (106, .iconst 3, 1), (107, .iload_n 2, 1), (108, .invokevirtual 789, 3), (111, .return_, 1)]
set_option maxRecDepth 20000 in
theorem dn_406_0_2_ok : dn_406_0_2.all (fun q => decide (decode (xm_b n_406) q.1 = .ok (q.2.1, q.2.2))) = true := xa_g_ok (by decide +kernel)
def te_406_0 : Nat → eE := (e_T 26 (e_T 9 (e_T 5 (e_T 1 (e_T 0 (e_L 0 (0, ei_load 0 2 1, 0, 0)) (e_L 1 (2, e_nof, 404, 1))) (e_T 4 (e_L 4 (0, ei_stor 1 0 5, 0, 0)) (e_L 5 (0, ei_push (0, 0) 6, 0, 0)))) (e_T 7 (e_T 6 (e_L 6 (0, ei_stor 2 0 7, 0, 0)) (e_L 7 (0, ei_load 2 0 8, 0, 0))) (e_T 8 (e_L 8 (0, ei_load 0 2 9, 0, 0)) (e_L 9 (0, ei_getf eft elay 12 10 12, 0, 0))))) (e_T 19 (e_T 15 (e_T 12 (e_L 12 (0, ei_if2 3 85 15, 0, 0)) (e_L 15 (0, ei_load 0 2 16, 0, 0))) (e_T 16 (e_L 16 (0, ei_getf eft elay 12 0 19, 0, 0)) (e_L 19 (0, ei_load 2 0 20, 0, 0)))) (e_T 23 (e_T 20 (e_L 20 (2, e_nof, 268, 1)) (e_L 23 (0, ei_push (0, 6) 25, 0, 0))) (e_T 25 (e_L 25 (0, ei_bin eF_add 26, 0, 0)) (e_L 26 (0, ei_ald elay false 27, 0, 0)))))) (e_T 40 (e_T 32 (e_T 28 (e_T 27 (e_L 27 (0, ei_push (0, 1) 28, 0, 0)) (e_L 28 (0, ei_if2 1 50 31, 0, 0))) (e_T 31 (e_L 31 (0, ei_load 0 2 32, 0, 0)) (e_L 32 (0, ei_getf eft elay 12 0 35, 0, 0)))) (e_T 36 (e_T 35 (e_L 35 (0, ei_load 2 0 36, 0, 0)) (e_L 36 (2, e_nof, 268, 1))) (e_T 39 (e_L 39 (0, ei_push (0, 5) 40, 0, 0)) (e_L 40 (0, ei_bin eF_add 41, 0, 0))))) (e_T 46 (e_T 42 (e_T 41 (e_L 41 (0, ei_ald elay false 42, 0, 0)) (e_L 42 (0, ei_push (0, 1) 43, 0, 0))) (e_T 43 (e_L 43 (0, ei_if2 1 50 46, 0, 0)) (e_L 46 (0, ei_push (0, 1) 47, 0, 0)))) (e_T 50 (e_T 47 (e_L 47 (0, ei_goto 51, 0, 0)) (e_L 50 (0, ei_push (0, 0) 51, 0, 0))) (e_T 51 (e_L 51 (0, ei_stor 3 0 52, 0, 0)) (e_T 52 (e_L 52 (0, ei_load 0 2 53, 0, 0)) (e_L 53 (0, ei_push (0, 2) 54, 0, 0))))))))
set_option maxRecDepth 20000 in
set_option maxHeartbeats 4000000 in
theorem te_406_0_ok : ∀ pc, e_EOq eft cls elay eI n_406 pc (te_406_0 pc) :=
  (e_Tok2
  (e_Tok2
  (e_Tok2
  (e_Tok2
  (e_Tok2
  (e_Lok (ld_aload_n_0 (x_dk dn_406_0_0_ok 0 rfl)))
  (e_Lok (lk_12_786 ho_406 (x_dk dn_406_0_0_ok 1 rfl))))
  (e_Tok2
  (e_Lok (e_st (I := eI) (er_istore_n (i := 1) (x_dk dn_406_0_0_ok 2 rfl) (by decide +kernel)) nx_stor))
  (e_Lok (ps_iconst_0 (x_dk dn_406_0_0_ok 3 rfl)))))
  (e_Tok2
  (e_Tok2
  (e_Lok (e_st (I := eI) (er_istore_n (i := 2) (x_dk dn_406_0_0_ok 4 rfl) (by decide +kernel)) nx_stor))
  (e_Lok (ld_iload_n_2 (x_dk dn_406_0_0_ok 5 rfl))))
  (e_Tok2
  (e_Lok (ld_aload_n_0 (x_dk dn_406_0_0_ok 6 rfl)))
  (e_Lok (lk_12_269g ho_406 (x_dk dn_406_0_0_ok 7 rfl))))))
  (e_Tok2
  (e_Tok2
  (e_Tok2
  (e_Lok (e_st (I := eI) (er_icmpge (off := 73) (tg := 85) (x_dk dn_406_0_0_ok 8 rfl) (by decide)) nx_if2))
  (e_Lok (ld_aload_n_0 (x_dk dn_406_0_0_ok 9 rfl))))
  (e_Tok2
  (e_Lok (lk_12_8g ho_406 (x_dk dn_406_0_0_ok 10 rfl)))
  (e_Lok (ld_iload_n_2 (x_dk dn_406_0_0_ok 11 rfl)))))
  (e_Tok2
  (e_Tok2
  (e_Lok (lk_12_294 ho_406 (x_dk dn_406_0_0_ok 12 rfl)))
  (e_Lok (ps_bipush_6 (x_dk dn_406_0_0_ok 13 rfl))))
  (e_Tok2
  (e_Lok (sm_iadd (x_dk dn_406_0_0_ok 14 rfl)))
  (e_Lok (sm_iaload (x_dk dn_406_0_0_ok 15 rfl)))))))
  (e_Tok2
  (e_Tok2
  (e_Tok2
  (e_Tok2
  (e_Lok (ps_iconst_1 (x_dk dn_406_0_0_ok 16 rfl)))
  (e_Lok (e_st (I := eI) (er_icmpne (off := 22) (tg := 50) (x_dk dn_406_0_0_ok 17 rfl) (by decide)) nx_if2)))
  (e_Tok2
  (e_Lok (ld_aload_n_0 (x_dk dn_406_0_0_ok 18 rfl)))
  (e_Lok (lk_12_8g ho_406 (x_dk dn_406_0_0_ok 19 rfl)))))
  (e_Tok2
  (e_Tok2
  (e_Lok (ld_iload_n_2 (x_dk dn_406_0_0_ok 20 rfl)))
  (e_Lok (lk_12_294 ho_406 (x_dk dn_406_0_0_ok 21 rfl))))
  (e_Tok2
  (e_Lok (ps_iconst_5 (x_dk dn_406_0_0_ok 22 rfl)))
  (e_Lok (sm_iadd (x_dk dn_406_0_0_ok 23 rfl))))))
  (e_Tok2
  (e_Tok2
  (e_Tok2
  (e_Lok (sm_iaload (x_dk dn_406_0_0_ok 24 rfl)))
  (e_Lok (ps_iconst_1 (x_dk dn_406_0_1_ok 0 rfl))))
  (e_Tok2
  (e_Lok (e_st (I := eI) (er_icmpne (off := 7) (tg := 50) (x_dk dn_406_0_1_ok 1 rfl) (by decide)) nx_if2))
  (e_Lok (ps_iconst_1 (x_dk dn_406_0_1_ok 2 rfl)))))
  (e_Tok2
  (e_Tok2
  (e_Lok (e_st (I := eI) (er_goto (off := 4) (tg := 51) (x_dk dn_406_0_1_ok 3 rfl) (by decide)) nx_goto))
  (e_Lok (ps_iconst_0 (x_dk dn_406_0_1_ok 4 rfl))))
  (e_Tok2
  (e_Lok (e_st (I := eI) (er_istore_n (i := 3) (x_dk dn_406_0_1_ok 5 rfl) (by decide +kernel)) nx_stor))
  (e_Tok2
  (e_Lok (ld_aload_n_0 (x_dk dn_406_0_1_ok 6 rfl)))
  (e_Lok (ps_iconst_2 (x_dk dn_406_0_1_ok 7 rfl)))))))))
def te_406_33 : Nat → eE := (e_T 82 (e_T 64 (e_T 59 (e_T 55 (e_T 54 (e_L 54 (0, ei_load 3 0 55, 0, 0)) (e_L 55 (0, ei_if1 0 75 58, 0, 0))) (e_T 58 (e_L 58 (0, ei_load 0 2 59, 0, 0)) (e_L 59 (0, ei_load 2 0 60, 0, 0)))) (e_T 62 (e_T 60 (e_L 60 (0, ei_push (0, 7) 62, 0, 0)) (e_L 62 (0, ei_load 2 0 63, 0, 0))) (e_T 63 (e_L 63 (0, ei_bin eF_mul 64, 0, 0)) (e_L 64 (0, ei_push (0, 0) 65, 0, 0))))) (e_T 72 (e_T 68 (e_T 65 (e_L 65 (2, e_nof, 317, 4)) (e_L 68 (0, ei_if1 0 75 71, 0, 0))) (e_T 71 (e_L 71 (0, ei_push (0, 1) 72, 0, 0)) (e_L 72 (0, ei_goto 76, 0, 0)))) (e_T 76 (e_T 75 (e_L 75 (0, ei_push (0, 0) 76, 0, 0)) (e_L 76 (2, e_nof, 389, 3))) (e_T 79 (e_L 79 (0, ei_inc 2 1 82, 0, 0)) (e_L 82 (0, ei_goto 7, 0, 0)))))) (e_T 96 (e_T 90 (e_T 86 (e_T 85 (e_L 85 (0, ei_load 1 0 86, 0, 0)) (e_L 86 (0, ei_if1 2 96 89, 0, 0))) (e_T 89 (e_L 89 (0, ei_load 0 2 90, 0, 0)) (e_L 90 (0, ei_push (0, 2) 91, 0, 0)))) (e_T 92 (e_T 91 (e_L 91 (0, ei_load 1 0 92, 0, 0)) (e_L 92 (2, e_nof, 385, 3))) (e_T 95 (e_L 95 (1, e_nof, 0, 0)) (e_L 96 (0, ei_load 0 2 97, 0, 0))))) (e_T 102 (e_T 100 (e_T 97 (e_L 97 (2, e_nof, 405, 1)) (e_L 100 (0, ei_stor 2 0 101, 0, 0))) (e_T 101 (e_L 101 (0, ei_load 2 0 102, 0, 0)) (e_L 102 (0, ei_if1 2 111 105, 0, 0)))) (e_T 106 (e_T 105 (e_L 105 (0, ei_load 0 2 106, 0, 0)) (e_L 106 (0, ei_push (0, 3) 107, 0, 0))) (e_T 107 (e_L 107 (0, ei_load 2 0 108, 0, 0)) (e_T 108 (e_L 108 (2, e_nof, 385, 3)) (e_L 111 (1, e_nof, 0, 0))))))))
set_option maxRecDepth 20000 in
set_option maxHeartbeats 4000000 in
theorem te_406_33_ok : ∀ pc, e_EOq eft cls elay eI n_406 pc (te_406_33 pc) :=
  (e_Tok2
  (e_Tok2
  (e_Tok2
  (e_Tok2
  (e_Tok2
  (e_Lok (ld_iload_n_3 (x_dk dn_406_0_1_ok 8 rfl)))
  (e_Lok (e_st (I := eI) (er_ifeq (off := 20) (tg := 75) (x_dk dn_406_0_1_ok 9 rfl) (by decide)) nx_if1)))
  (e_Tok2
  (e_Lok (ld_aload_n_0 (x_dk dn_406_0_1_ok 10 rfl)))
  (e_Lok (ld_iload_n_2 (x_dk dn_406_0_1_ok 11 rfl)))))
  (e_Tok2
  (e_Tok2
  (e_Lok (ps_bipush_7 (x_dk dn_406_0_1_ok 12 rfl)))
  (e_Lok (ld_iload_n_2 (x_dk dn_406_0_1_ok 13 rfl))))
  (e_Tok2
  (e_Lok (sm_imul (x_dk dn_406_0_1_ok 14 rfl)))
  (e_Lok (ps_iconst_0 (x_dk dn_406_0_1_ok 15 rfl))))))
  (e_Tok2
  (e_Tok2
  (e_Tok2
  (e_Lok (lk_12_461 ho_406 (x_dk dn_406_0_1_ok 16 rfl)))
  (e_Lok (e_st (I := eI) (er_ifeq (off := 7) (tg := 75) (x_dk dn_406_0_1_ok 17 rfl) (by decide)) nx_if1)))
  (e_Tok2
  (e_Lok (ps_iconst_1 (x_dk dn_406_0_1_ok 18 rfl)))
  (e_Lok (e_st (I := eI) (er_goto (off := 4) (tg := 76) (x_dk dn_406_0_1_ok 19 rfl) (by decide)) nx_goto))))
  (e_Tok2
  (e_Tok2
  (e_Lok (ps_iconst_0 (x_dk dn_406_0_1_ok 20 rfl)))
  (e_Lok (lk_12_765 ho_406 (x_dk dn_406_0_1_ok 21 rfl))))
  (e_Tok2
  (e_Lok (e_st (I := eI) (er_iinc (i := 2) (n := 1) (x_dk dn_406_0_1_ok 22 rfl) (by decide +kernel) (by decide)) nx_inc))
  (e_Lok (e_st (I := eI) (er_goto (off := (-75)) (tg := 7) (x_dk dn_406_0_1_ok 23 rfl) (by decide)) nx_goto))))))
  (e_Tok2
  (e_Tok2
  (e_Tok2
  (e_Tok2
  (e_Lok (ld_iload_n_1 (x_dk dn_406_0_1_ok 24 rfl)))
  (e_Lok (e_st (I := eI) (er_iflt (off := 10) (tg := 96) (x_dk dn_406_0_2_ok 0 rfl) (by decide)) nx_if1)))
  (e_Tok2
  (e_Lok (ld_aload_n_0 (x_dk dn_406_0_2_ok 1 rfl)))
  (e_Lok (ps_iconst_2 (x_dk dn_406_0_2_ok 2 rfl)))))
  (e_Tok2
  (e_Tok2
  (e_Lok (ld_iload_n_1 (x_dk dn_406_0_2_ok 3 rfl)))
  (e_Lok (lk_12_789 ho_406 (x_dk dn_406_0_2_ok 4 rfl))))
  (e_Tok2
  (e_Lok (e_rt (I := eI) (k := 0) ⟨(x_dk dn_406_0_2_ok 5 rfl), rfl⟩))
  (e_Lok (ld_aload_n_0 (x_dk dn_406_0_2_ok 6 rfl))))))
  (e_Tok2
  (e_Tok2
  (e_Tok2
  (e_Lok (lk_12_792 ho_406 (x_dk dn_406_0_2_ok 7 rfl)))
  (e_Lok (e_st (I := eI) (er_istore_n (i := 2) (x_dk dn_406_0_2_ok 8 rfl) (by decide +kernel)) nx_stor)))
  (e_Tok2
  (e_Lok (ld_iload_n_2 (x_dk dn_406_0_2_ok 9 rfl)))
  (e_Lok (e_st (I := eI) (er_iflt (off := 9) (tg := 111) (x_dk dn_406_0_2_ok 10 rfl) (by decide)) nx_if1))))
  (e_Tok2
  (e_Tok2
  (e_Lok (ld_aload_n_0 (x_dk dn_406_0_2_ok 11 rfl)))
  (e_Lok (ps_iconst_3 (x_dk dn_406_0_2_ok 12 rfl))))
  (e_Tok2
  (e_Lok (ld_iload_n_2 (x_dk dn_406_0_2_ok 13 rfl)))
  (e_Tok2
  (e_Lok (lk_12_789 ho_406 (x_dk dn_406_0_2_ok 14 rfl)))
  (e_Lok (e_rt (I := eI) (k := 0) ⟨(x_dk dn_406_0_2_ok 15 rfl), rfl⟩))))))))
def te_406 : Nat → eE := (e_T 53 te_406_0 te_406_33)
theorem te_406_ok : ∀ pc, e_EOq eft cls elay eI n_406 pc (te_406 pc) := (e_Tok2 (te_406_0_ok) (te_406_33_ok))
theorem ho_407 : (xm_y n_407).cls = "RobotCellHouseModel" := rfl
def dn_407_0_0 : List (Nat × Instr × Nat) := [(0, .iconst 0, 1), (1, .istore_n 1, 1), (2, .iload_n 1, 1), (3, .aload_n 0, 1), (4, .getfield 279, 3), (7, .if_icmp .ge 143, 3), (10, .aload_n 0, 1), (11, .getfield 8, 3), (14, .iload_n 1, 1), (15, .invokestatic 774, 3), (18, .iaload, 1), (19, .bipush 8, 2), (21, .if_icmp .ne 7, 3), (24, .iconst 1, 1), (25, .goto 4, 3), (28, .iconst 0, 1), (29, .istore_n 2, 1), (30, .iconst 0, 1), (31, .istore_n 3, 1), (32, .iload_n 3, 1), (33, .iconst 4, 1), (34, .if_icmp .ge 95, 3), (37, .iload_n 2, 1), (38, .iload_n 3, 1), (39, .aload_n 0, 1)]
set_option maxRecDepth 20000 in
theorem dn_407_0_0_ok : dn_407_0_0.all (fun q => decide (decode (xm_b n_407) q.1 = .ok (q.2.1, q.2.2))) = true := xa_g_ok (by decide +kernel)
def dn_407_0_1 : List (Nat × Instr × Nat) := [(40, .getfield 269, 3), (43, .if_icmp .ge 22, 3), (46, .aload_n 0, 1), (47, .getfield 8, 3), (50, .iload_n 3, 1), (51, .invokestatic 294, 3), (54, .iconst 1, 1), (55, .iadd, 1), (56, .iaload, 1), (57, .iload_n 1, 1), (58, .if_icmp .ne 7, 3), (61, .iconst 1, 1), (62, .goto 4, 3), (65, .iconst 0, 1), (66, .iadd, 1), (67, .istore_n 2, 1), (68, .iconst 1, 1), (69, .istore 4, 2), (71, .iload 4, 2), (73, .aload_n 0, 1), (74, .getfield 8, 3), (77, .sipush 20704, 3), (80, .bipush 33, 2), (82, .iload_n 3, 1), (83, .imul, 1)]
set_option maxRecDepth 20000 in
theorem dn_407_0_1_ok : dn_407_0_1.all (fun q => decide (decode (xm_b n_407) q.1 = .ok (q.2.1, q.2.2))) = true := xa_g_ok (by decide +kernel)
def dn_407_0_2 : List (Nat × Instr × Nat) := [(84, .iadd, 1), (85, .iaload, 1), (86, .if_icmp .gt 37, 3), (89, .iload_n 2, 1), (90, .aload_n 0, 1), (91, .getfield 8, 3), (94, .sipush 20704, 3), (97, .bipush 33, 2), (99, .iload_n 3, 1), (100, .imul, 1), (101, .iadd, 1), (102, .iload 4, 2), (104, .iadd, 1), (105, .iaload, 1), (106, .iload_n 1, 1), (107, .if_icmp .ne 7, 3), (110, .iconst 1, 1), (111, .goto 4, 3), (114, .iconst 0, 1), (115, .iadd, 1), (116, .istore_n 2, 1), (117, .iinc 4 1, 3), (120, .goto (-49), 3), (123, .iinc 3 1, 3), (126, .goto (-94), 3)]
set_option maxRecDepth 20000 in
theorem dn_407_0_2_ok : dn_407_0_2.all (fun q => decide (decode (xm_b n_407) q.1 = .ok (q.2.1, q.2.2))) = true := xa_g_ok (by decide +kernel)
def dn_407_0_3 : List (Nat × Instr × Nat) := [(129, .aload_n 0, 1), (130, .iconst 3, 1), (131, .iload_n 2, 1), (132, .iconst 1, 1), (133, .if_icmp .eq 7, 3), (136, .iconst 1, 1), (137, .goto 4, 3), (140, .iconst 0, 1), (141, .invokevirtual 765, 3), (144, .iinc 1 1, 3), (147, .goto (-145), 3), (150, .return_, 1)]
set_option maxRecDepth 20000 in
theorem dn_407_0_3_ok : dn_407_0_3.all (fun q => decide (decode (xm_b n_407) q.1 = .ok (q.2.1, q.2.2))) = true := xa_g_ok (by decide +kernel)
def te_407_0 : Nat → eE := (e_T 15 (e_T 4 (e_T 1 (e_T 0 (e_L 0 (0, ei_push (0, 0) 1, 0, 0)) (e_L 1 (0, ei_stor 1 0 2, 0, 0))) (e_T 2 (e_L 2 (0, ei_load 1 0 3, 0, 0)) (e_T 3 (e_L 3 (0, ei_load 0 2 4, 0, 0)) (e_L 4 (0, ei_getf eft elay 12 40 7, 0, 0))))) (e_T 10 (e_T 7 (e_L 7 (0, ei_if2 3 150 10, 0, 0)) (e_L 10 (0, ei_load 0 2 11, 0, 0))) (e_T 11 (e_L 11 (0, ei_getf eft elay 12 0 14, 0, 0)) (e_T 14 (e_L 14 (0, ei_load 1 0 15, 0, 0)) (e_L 15 (2, e_nof, 392, 1)))))) (e_T 25 (e_T 19 (e_T 18 (e_L 18 (0, ei_ald elay false 19, 0, 0)) (e_L 19 (0, ei_push (0, 8) 21, 0, 0))) (e_T 21 (e_L 21 (0, ei_if2 1 28 24, 0, 0)) (e_T 24 (e_L 24 (0, ei_push (0, 1) 25, 0, 0)) (e_L 25 (0, ei_goto 29, 0, 0))))) (e_T 30 (e_T 28 (e_L 28 (0, ei_push (0, 0) 29, 0, 0)) (e_T 29 (e_L 29 (0, ei_stor 2 0 30, 0, 0)) (e_L 30 (0, ei_push (0, 0) 31, 0, 0)))) (e_T 31 (e_L 31 (0, ei_stor 3 0 32, 0, 0)) (e_T 32 (e_L 32 (0, ei_load 3 0 33, 0, 0)) (e_L 33 (0, ei_push (0, 4) 34, 0, 0)))))))
set_option maxRecDepth 20000 in
set_option maxHeartbeats 4000000 in
theorem te_407_0_ok : ∀ pc, e_EOq eft cls elay eI n_407 pc (te_407_0 pc) :=
  (e_Tok2
  (e_Tok2
  (e_Tok2
  (e_Tok2
  (e_Lok (ps_iconst_0 (x_dk dn_407_0_0_ok 0 rfl)))
  (e_Lok (e_st (I := eI) (er_istore_n (i := 1) (x_dk dn_407_0_0_ok 1 rfl) (by decide +kernel)) nx_stor)))
  (e_Tok2
  (e_Lok (ld_iload_n_1 (x_dk dn_407_0_0_ok 2 rfl)))
  (e_Tok2
  (e_Lok (ld_aload_n_0 (x_dk dn_407_0_0_ok 3 rfl)))
  (e_Lok (lk_12_279g ho_407 (x_dk dn_407_0_0_ok 4 rfl))))))
  (e_Tok2
  (e_Tok2
  (e_Lok (e_st (I := eI) (er_icmpge (off := 143) (tg := 150) (x_dk dn_407_0_0_ok 5 rfl) (by decide)) nx_if2))
  (e_Lok (ld_aload_n_0 (x_dk dn_407_0_0_ok 6 rfl))))
  (e_Tok2
  (e_Lok (lk_12_8g ho_407 (x_dk dn_407_0_0_ok 7 rfl)))
  (e_Tok2
  (e_Lok (ld_iload_n_1 (x_dk dn_407_0_0_ok 8 rfl)))
  (e_Lok (lk_12_774 ho_407 (x_dk dn_407_0_0_ok 9 rfl)))))))
  (e_Tok2
  (e_Tok2
  (e_Tok2
  (e_Lok (sm_iaload (x_dk dn_407_0_0_ok 10 rfl)))
  (e_Lok (ps_bipush_8 (x_dk dn_407_0_0_ok 11 rfl))))
  (e_Tok2
  (e_Lok (e_st (I := eI) (er_icmpne (off := 7) (tg := 28) (x_dk dn_407_0_0_ok 12 rfl) (by decide)) nx_if2))
  (e_Tok2
  (e_Lok (ps_iconst_1 (x_dk dn_407_0_0_ok 13 rfl)))
  (e_Lok (e_st (I := eI) (er_goto (off := 4) (tg := 29) (x_dk dn_407_0_0_ok 14 rfl) (by decide)) nx_goto)))))
  (e_Tok2
  (e_Tok2
  (e_Lok (ps_iconst_0 (x_dk dn_407_0_0_ok 15 rfl)))
  (e_Tok2
  (e_Lok (e_st (I := eI) (er_istore_n (i := 2) (x_dk dn_407_0_0_ok 16 rfl) (by decide +kernel)) nx_stor))
  (e_Lok (ps_iconst_0 (x_dk dn_407_0_0_ok 17 rfl)))))
  (e_Tok2
  (e_Lok (e_st (I := eI) (er_istore_n (i := 3) (x_dk dn_407_0_0_ok 18 rfl) (by decide +kernel)) nx_stor))
  (e_Tok2
  (e_Lok (ld_iload_n_3 (x_dk dn_407_0_0_ok 19 rfl)))
  (e_Lok (ps_iconst_4 (x_dk dn_407_0_0_ok 20 rfl))))))))
def te_407_21 : Nat → eE := (e_T 54 (e_T 40 (e_T 37 (e_T 34 (e_L 34 (0, ei_if2 3 129 37, 0, 0)) (e_L 37 (0, ei_load 2 0 38, 0, 0))) (e_T 38 (e_L 38 (0, ei_load 3 0 39, 0, 0)) (e_T 39 (e_L 39 (0, ei_load 0 2 40, 0, 0)) (e_L 40 (0, ei_getf eft elay 12 10 43, 0, 0))))) (e_T 47 (e_T 43 (e_L 43 (0, ei_if2 3 65 46, 0, 0)) (e_T 46 (e_L 46 (0, ei_load 0 2 47, 0, 0)) (e_L 47 (0, ei_getf eft elay 12 0 50, 0, 0)))) (e_T 50 (e_L 50 (0, ei_load 3 0 51, 0, 0)) (e_T 51 (e_L 51 (2, e_nof, 268, 1)) (e_L 54 (0, ei_push (0, 1) 55, 0, 0)))))) (e_T 61 (e_T 56 (e_T 55 (e_L 55 (0, ei_bin eF_add 56, 0, 0)) (e_L 56 (0, ei_ald elay false 57, 0, 0))) (e_T 57 (e_L 57 (0, ei_load 1 0 58, 0, 0)) (e_T 58 (e_L 58 (0, ei_if2 1 65 61, 0, 0)) (e_L 61 (0, ei_push (0, 1) 62, 0, 0))))) (e_T 66 (e_T 62 (e_L 62 (0, ei_goto 66, 0, 0)) (e_T 65 (e_L 65 (0, ei_push (0, 0) 66, 0, 0)) (e_L 66 (0, ei_bin eF_add 67, 0, 0)))) (e_T 67 (e_L 67 (0, ei_stor 2 0 68, 0, 0)) (e_T 68 (e_L 68 (0, ei_push (0, 1) 69, 0, 0)) (e_L 69 (0, ei_stor 4 0 71, 0, 0)))))))
set_option maxRecDepth 20000 in
set_option maxHeartbeats 4000000 in
theorem te_407_21_ok : ∀ pc, e_EOq eft cls elay eI n_407 pc (te_407_21 pc) :=
  (e_Tok2
  (e_Tok2
  (e_Tok2
  (e_Tok2
  (e_Lok (e_st (I := eI) (er_icmpge (off := 95) (tg := 129) (x_dk dn_407_0_0_ok 21 rfl) (by decide)) nx_if2))
  (e_Lok (ld_iload_n_2 (x_dk dn_407_0_0_ok 22 rfl))))
  (e_Tok2
  (e_Lok (ld_iload_n_3 (x_dk dn_407_0_0_ok 23 rfl)))
  (e_Tok2
  (e_Lok (ld_aload_n_0 (x_dk dn_407_0_0_ok 24 rfl)))
  (e_Lok (lk_12_269g ho_407 (x_dk dn_407_0_1_ok 0 rfl))))))
  (e_Tok2
  (e_Tok2
  (e_Lok (e_st (I := eI) (er_icmpge (off := 22) (tg := 65) (x_dk dn_407_0_1_ok 1 rfl) (by decide)) nx_if2))
  (e_Tok2
  (e_Lok (ld_aload_n_0 (x_dk dn_407_0_1_ok 2 rfl)))
  (e_Lok (lk_12_8g ho_407 (x_dk dn_407_0_1_ok 3 rfl)))))
  (e_Tok2
  (e_Lok (ld_iload_n_3 (x_dk dn_407_0_1_ok 4 rfl)))
  (e_Tok2
  (e_Lok (lk_12_294 ho_407 (x_dk dn_407_0_1_ok 5 rfl)))
  (e_Lok (ps_iconst_1 (x_dk dn_407_0_1_ok 6 rfl)))))))
  (e_Tok2
  (e_Tok2
  (e_Tok2
  (e_Lok (sm_iadd (x_dk dn_407_0_1_ok 7 rfl)))
  (e_Lok (sm_iaload (x_dk dn_407_0_1_ok 8 rfl))))
  (e_Tok2
  (e_Lok (ld_iload_n_1 (x_dk dn_407_0_1_ok 9 rfl)))
  (e_Tok2
  (e_Lok (e_st (I := eI) (er_icmpne (off := 7) (tg := 65) (x_dk dn_407_0_1_ok 10 rfl) (by decide)) nx_if2))
  (e_Lok (ps_iconst_1 (x_dk dn_407_0_1_ok 11 rfl))))))
  (e_Tok2
  (e_Tok2
  (e_Lok (e_st (I := eI) (er_goto (off := 4) (tg := 66) (x_dk dn_407_0_1_ok 12 rfl) (by decide)) nx_goto))
  (e_Tok2
  (e_Lok (ps_iconst_0 (x_dk dn_407_0_1_ok 13 rfl)))
  (e_Lok (sm_iadd (x_dk dn_407_0_1_ok 14 rfl)))))
  (e_Tok2
  (e_Lok (e_st (I := eI) (er_istore_n (i := 2) (x_dk dn_407_0_1_ok 15 rfl) (by decide +kernel)) nx_stor))
  (e_Tok2
  (e_Lok (ps_iconst_1 (x_dk dn_407_0_1_ok 16 rfl)))
  (e_Lok (e_st (I := eI) (er_istore (i := 4) (x_dk dn_407_0_1_ok 17 rfl) (by decide +kernel)) nx_stor)))))))
def te_407_43 : Nat → eE := (e_T 89 (e_T 80 (e_T 73 (e_T 71 (e_L 71 (0, ei_load 4 0 73, 0, 0)) (e_L 73 (0, ei_load 0 2 74, 0, 0))) (e_T 74 (e_L 74 (0, ei_getf eft elay 12 0 77, 0, 0)) (e_T 77 (e_L 77 (0, ei_push (0, 20704) 80, 0, 0)) (e_L 80 (0, ei_push (0, 33) 82, 0, 0))))) (e_T 84 (e_T 82 (e_L 82 (0, ei_load 3 0 83, 0, 0)) (e_T 83 (e_L 83 (0, ei_bin eF_mul 84, 0, 0)) (e_L 84 (0, ei_bin eF_add 85, 0, 0)))) (e_T 85 (e_L 85 (0, ei_ald elay false 86, 0, 0)) (e_T 86 (e_L 86 (0, ei_if2 4 123 89, 0, 0)) (e_L 89 (0, ei_load 2 0 90, 0, 0)))))) (e_T 99 (e_T 91 (e_T 90 (e_L 90 (0, ei_load 0 2 91, 0, 0)) (e_L 91 (0, ei_getf eft elay 12 0 94, 0, 0))) (e_T 94 (e_L 94 (0, ei_push (0, 20704) 97, 0, 0)) (e_T 97 (e_L 97 (0, ei_push (0, 33) 99, 0, 0)) (e_L 99 (0, ei_load 3 0 100, 0, 0))))) (e_T 102 (e_T 100 (e_L 100 (0, ei_bin eF_mul 101, 0, 0)) (e_T 101 (e_L 101 (0, ei_bin eF_add 102, 0, 0)) (e_L 102 (0, ei_load 4 0 104, 0, 0)))) (e_T 104 (e_L 104 (0, ei_bin eF_add 105, 0, 0)) (e_T 105 (e_L 105 (0, ei_ald elay false 106, 0, 0)) (e_L 106 (0, ei_load 1 0 107, 0, 0)))))))
set_option maxRecDepth 20000 in
set_option maxHeartbeats 4000000 in
theorem te_407_43_ok : ∀ pc, e_EOq eft cls elay eI n_407 pc (te_407_43 pc) :=
  (e_Tok2
  (e_Tok2
  (e_Tok2
  (e_Tok2
  (e_Lok (ld_iload_4 (x_dk dn_407_0_1_ok 18 rfl)))
  (e_Lok (ld_aload_n_0 (x_dk dn_407_0_1_ok 19 rfl))))
  (e_Tok2
  (e_Lok (lk_12_8g ho_407 (x_dk dn_407_0_1_ok 20 rfl)))
  (e_Tok2
  (e_Lok (ps_sipush_20704 (x_dk dn_407_0_1_ok 21 rfl)))
  (e_Lok (ps_bipush_33 (x_dk dn_407_0_1_ok 22 rfl))))))
  (e_Tok2
  (e_Tok2
  (e_Lok (ld_iload_n_3 (x_dk dn_407_0_1_ok 23 rfl)))
  (e_Tok2
  (e_Lok (sm_imul (x_dk dn_407_0_1_ok 24 rfl)))
  (e_Lok (sm_iadd (x_dk dn_407_0_2_ok 0 rfl)))))
  (e_Tok2
  (e_Lok (sm_iaload (x_dk dn_407_0_2_ok 1 rfl)))
  (e_Tok2
  (e_Lok (e_st (I := eI) (er_icmpgt (off := 37) (tg := 123) (x_dk dn_407_0_2_ok 2 rfl) (by decide)) nx_if2))
  (e_Lok (ld_iload_n_2 (x_dk dn_407_0_2_ok 3 rfl)))))))
  (e_Tok2
  (e_Tok2
  (e_Tok2
  (e_Lok (ld_aload_n_0 (x_dk dn_407_0_2_ok 4 rfl)))
  (e_Lok (lk_12_8g ho_407 (x_dk dn_407_0_2_ok 5 rfl))))
  (e_Tok2
  (e_Lok (ps_sipush_20704 (x_dk dn_407_0_2_ok 6 rfl)))
  (e_Tok2
  (e_Lok (ps_bipush_33 (x_dk dn_407_0_2_ok 7 rfl)))
  (e_Lok (ld_iload_n_3 (x_dk dn_407_0_2_ok 8 rfl))))))
  (e_Tok2
  (e_Tok2
  (e_Lok (sm_imul (x_dk dn_407_0_2_ok 9 rfl)))
  (e_Tok2
  (e_Lok (sm_iadd (x_dk dn_407_0_2_ok 10 rfl)))
  (e_Lok (ld_iload_4 (x_dk dn_407_0_2_ok 11 rfl)))))
  (e_Tok2
  (e_Lok (sm_iadd (x_dk dn_407_0_2_ok 12 rfl)))
  (e_Tok2
  (e_Lok (sm_iaload (x_dk dn_407_0_2_ok 13 rfl)))
  (e_Lok (ld_iload_n_1 (x_dk dn_407_0_2_ok 14 rfl))))))))
def te_407_65 : Nat → eE := (e_T 129 (e_T 115 (e_T 110 (e_T 107 (e_L 107 (0, ei_if2 1 114 110, 0, 0)) (e_L 110 (0, ei_push (0, 1) 111, 0, 0))) (e_T 111 (e_L 111 (0, ei_goto 115, 0, 0)) (e_T 114 (e_L 114 (0, ei_push (0, 0) 115, 0, 0)) (e_L 115 (0, ei_bin eF_add 116, 0, 0))))) (e_T 120 (e_T 116 (e_L 116 (0, ei_stor 2 0 117, 0, 0)) (e_T 117 (e_L 117 (0, ei_inc 4 1 120, 0, 0)) (e_L 120 (0, ei_goto 71, 0, 0)))) (e_T 123 (e_L 123 (0, ei_inc 3 1 126, 0, 0)) (e_T 126 (e_L 126 (0, ei_goto 32, 0, 0)) (e_L 129 (0, ei_load 0 2 130, 0, 0)))))) (e_T 136 (e_T 131 (e_T 130 (e_L 130 (0, ei_push (0, 3) 131, 0, 0)) (e_L 131 (0, ei_load 2 0 132, 0, 0))) (e_T 132 (e_L 132 (0, ei_push (0, 1) 133, 0, 0)) (e_T 133 (e_L 133 (0, ei_if2 0 140 136, 0, 0)) (e_L 136 (0, ei_push (0, 1) 137, 0, 0))))) (e_T 141 (e_T 137 (e_L 137 (0, ei_goto 141, 0, 0)) (e_T 140 (e_L 140 (0, ei_push (0, 0) 141, 0, 0)) (e_L 141 (2, e_nof, 389, 3)))) (e_T 144 (e_L 144 (0, ei_inc 1 1 147, 0, 0)) (e_T 147 (e_L 147 (0, ei_goto 2, 0, 0)) (e_L 150 (1, e_nof, 0, 0)))))))
set_option maxRecDepth 20000 in
set_option maxHeartbeats 4000000 in
theorem te_407_65_ok : ∀ pc, e_EOq eft cls elay eI n_407 pc (te_407_65 pc) :=
  (e_Tok2
  (e_Tok2
  (e_Tok2
  (e_Tok2
  (e_Lok (e_st (I := eI) (er_icmpne (off := 7) (tg := 114) (x_dk dn_407_0_2_ok 15 rfl) (by decide)) nx_if2))
  (e_Lok (ps_iconst_1 (x_dk dn_407_0_2_ok 16 rfl))))
  (e_Tok2
  (e_Lok (e_st (I := eI) (er_goto (off := 4) (tg := 115) (x_dk dn_407_0_2_ok 17 rfl) (by decide)) nx_goto))
  (e_Tok2
  (e_Lok (ps_iconst_0 (x_dk dn_407_0_2_ok 18 rfl)))
  (e_Lok (sm_iadd (x_dk dn_407_0_2_ok 19 rfl))))))
  (e_Tok2
  (e_Tok2
  (e_Lok (e_st (I := eI) (er_istore_n (i := 2) (x_dk dn_407_0_2_ok 20 rfl) (by decide +kernel)) nx_stor))
  (e_Tok2
  (e_Lok (e_st (I := eI) (er_iinc (i := 4) (n := 1) (x_dk dn_407_0_2_ok 21 rfl) (by decide +kernel) (by decide)) nx_inc))
  (e_Lok (e_st (I := eI) (er_goto (off := (-49)) (tg := 71) (x_dk dn_407_0_2_ok 22 rfl) (by decide)) nx_goto))))
  (e_Tok2
  (e_Lok (e_st (I := eI) (er_iinc (i := 3) (n := 1) (x_dk dn_407_0_2_ok 23 rfl) (by decide +kernel) (by decide)) nx_inc))
  (e_Tok2
  (e_Lok (e_st (I := eI) (er_goto (off := (-94)) (tg := 32) (x_dk dn_407_0_2_ok 24 rfl) (by decide)) nx_goto))
  (e_Lok (ld_aload_n_0 (x_dk dn_407_0_3_ok 0 rfl)))))))
  (e_Tok2
  (e_Tok2
  (e_Tok2
  (e_Lok (ps_iconst_3 (x_dk dn_407_0_3_ok 1 rfl)))
  (e_Lok (ld_iload_n_2 (x_dk dn_407_0_3_ok 2 rfl))))
  (e_Tok2
  (e_Lok (ps_iconst_1 (x_dk dn_407_0_3_ok 3 rfl)))
  (e_Tok2
  (e_Lok (e_st (I := eI) (er_icmpeq (off := 7) (tg := 140) (x_dk dn_407_0_3_ok 4 rfl) (by decide)) nx_if2))
  (e_Lok (ps_iconst_1 (x_dk dn_407_0_3_ok 5 rfl))))))
  (e_Tok2
  (e_Tok2
  (e_Lok (e_st (I := eI) (er_goto (off := 4) (tg := 141) (x_dk dn_407_0_3_ok 6 rfl) (by decide)) nx_goto))
  (e_Tok2
  (e_Lok (ps_iconst_0 (x_dk dn_407_0_3_ok 7 rfl)))
  (e_Lok (lk_12_765 ho_407 (x_dk dn_407_0_3_ok 8 rfl)))))
  (e_Tok2
  (e_Lok (e_st (I := eI) (er_iinc (i := 1) (n := 1) (x_dk dn_407_0_3_ok 9 rfl) (by decide +kernel) (by decide)) nx_inc))
  (e_Tok2
  (e_Lok (e_st (I := eI) (er_goto (off := (-145)) (tg := 2) (x_dk dn_407_0_3_ok 10 rfl) (by decide)) nx_goto))
  (e_Lok (e_rt (I := eI) (k := 0) ⟨(x_dk dn_407_0_3_ok 11 rfl), rfl⟩)))))))
def te_407 : Nat → eE := (e_T 69 (e_T 33 te_407_0 te_407_21) (e_T 106 te_407_43 te_407_65))
theorem te_407_ok : ∀ pc, e_EOq eft cls elay eI n_407 pc (te_407 pc) := (e_Tok2 ((e_Tok2 (te_407_0_ok) (te_407_21_ok))) ((e_Tok2 (te_407_43_ok) (te_407_65_ok))))
theorem ho_408 : (xm_y n_408).cls = "RobotCellHouseModel" := rfl
def dn_408_0_0 : List (Nat × Instr × Nat) := [(0, .aload_n 0, 1), (1, .getfield 8, 3), (4, .iconst 0, 1), (5, .dup2, 1), (6, .iaload, 1), (7, .iconst 1, 1), (8, .iadd, 1), (9, .iastore, 1), (10, .aload_n 0, 1), (11, .invokevirtual 795, 3), (14, .aload_n 0, 1), (15, .getfield 8, 3), (18, .iconst 1, 1), (19, .iaload, 1), (20, .iconst 1, 1), (21, .if_icmp .ne 10, 3), (24, .aload_n 0, 1), (25, .invokevirtual 798, 3), (28, .goto 4, 3), (31, .iconst (-1), 1), (32, .istore_n 1, 1), (33, .iload_n 1, 1), (34, .ifCond .lt 9, 3), (37, .aload_n 0, 1), (38, .iconst 1, 1)]
set_option maxRecDepth 20000 in
theorem dn_408_0_0_ok : dn_408_0_0.all (fun q => decide (decode (xm_b n_408) q.1 = .ok (q.2.1, q.2.2))) = true := xa_g_ok (by decide +kernel)
def dn_408_0_1 : List (Nat × Instr × Nat) := [(39, .iload_n 1, 1), (40, .invokevirtual 789, 3), (43, .iconst 0, 1), (44, .istore_n 2, 1), (45, .iload_n 2, 1), (46, .bipush 16, 2), (48, .if_icmp .ge 79, 3), (51, .aload_n 0, 1), (52, .getfield 8, 3), (55, .iload_n 2, 1), (56, .invokestatic 298, 3), (59, .iaload, 1), (60, .istore_n 3, 1), (61, .iload_n 3, 1), (62, .ifCond .le 59, 3), (65, .iload_n 3, 1), (66, .bipush 6, 2), (68, .if_icmp .ge 53, 3), (71, .aload_n 0, 1), (72, .getfield 8, 3), (75, .iload_n 2, 1), (76, .invokestatic 298, 3), (79, .bipush 11, 2), (81, .iadd, 1), (82, .iaload, 1)]
set_option maxRecDepth 20000 in
theorem dn_408_0_1_ok : dn_408_0_1.all (fun q => decide (decode (xm_b n_408) q.1 = .ok (q.2.1, q.2.2))) = true := xa_g_ok (by decide +kernel)
def dn_408_0_2 : List (Nat × Instr × Nat) := [(83, .aload_n 0, 1), (84, .getfield 8, 3), (87, .iconst 0, 1), (88, .iaload, 1), (89, .if_icmp .gt 32, 3), (92, .aload_n 0, 1), (93, .getfield 8, 3), (96, .aload_n 0, 1), (97, .getfield 8, 3), (100, .iload_n 2, 1), (101, .invokestatic 298, 3), (104, .iconst 1, 1), (105, .iadd, 1), (106, .iaload, 1), (107, .invokestatic 294, 3), (110, .iconst 2, 1), (111, .iadd, 1), (112, .iaload, 1), (113, .ifCond .ge 8, 3), (116, .aload_n 0, 1), (117, .iload_n 2, 1), (118, .invokevirtual 801, 3), (121, .iinc 2 1, 3), (124, .goto (-79), 3), (127, .aload_n 0, 1)]
set_option maxRecDepth 20000 in
theorem dn_408_0_2_ok : dn_408_0_2.all (fun q => decide (decode (xm_b n_408) q.1 = .ok (q.2.1, q.2.2))) = true := xa_g_ok (by decide +kernel)
def dn_408_0_3 : List (Nat × Instr × Nat) := [(128, .getfield 8, 3), (131, .iconst 1, 1), (132, .iaload, 1), (133, .iconst 1, 1), (134, .if_icmp .ne 7, 3), (137, .iconst 1, 1), (138, .goto 4, 3), (141, .iconst 0, 1), (142, .istore_n 2, 1), (143, .iload_n 2, 1), (144, .ifCond .eq 7, 3), (147, .aload_n 0, 1), (148, .invokevirtual 804, 3), (151, .aload_n 0, 1), (152, .iload_n 2, 1), (153, .invokevirtual 807, 3), (156, .aload_n 0, 1), (157, .invokevirtual 401, 3), (160, .iload_n 2, 1), (161, .ifCond .eq 7, 3), (164, .aload_n 0, 1), (165, .invokevirtual 810, 3), (168, .iconst 0, 1), (169, .istore_n 3, 1), (170, .iload_n 3, 1)]
set_option maxRecDepth 20000 in
theorem dn_408_0_3_ok : dn_408_0_3.all (fun q => decide (decode (xm_b n_408) q.1 = .ok (q.2.1, q.2.2))) = true := xa_g_ok (by decide +kernel)
def dn_408_1_0 : List (Nat × Instr × Nat) := [(171, .aload_n 0, 1), (172, .getfield 276, 3), (175, .if_icmp .ge 14, 3), (178, .aload_n 0, 1), (179, .iload_n 3, 1), (180, .invokevirtual 813, 3), (183, .iinc 3 1, 3), (186, .goto (-16), 3), (189, .aload_n 0, 1), (190, .invokevirtual 369, 3), (193, .aload_n 0, 1), (194, .invokevirtual 816, 3), (197, .return_, 1)]
set_option maxRecDepth 20000 in
theorem dn_408_1_0_ok : dn_408_1_0.all (fun q => decide (decode (xm_b n_408) q.1 = .ok (q.2.1, q.2.2))) = true := xa_g_ok (by decide +kernel)
def te_408_0 : Nat → eE := (e_T 19 (e_T 8 (e_T 4 (e_T 0 (e_L 0 (0, ei_load 0 2 1, 0, 0)) (e_T 1 (e_L 1 (0, ei_getf eft elay 12 0 4, 0, 0)) (e_L 4 (0, ei_push (0, 0) 5, 0, 0)))) (e_T 6 (e_T 5 (e_L 5 (0, ei_stk ef_dup2 6, 0, 0)) (e_L 6 (0, ei_ald elay false 7, 0, 0))) (e_T 7 (e_L 7 (0, ei_push (0, 1) 8, 0, 0)) (e_L 8 (0, ei_bin eF_add 9, 0, 0))))) (e_T 11 (e_T 9 (e_L 9 (0, ei_ast elay false 10, 0, 0)) (e_T 10 (e_L 10 (0, ei_load 0 2 11, 0, 0)) (e_L 11 (2, e_nof, 401, 1)))) (e_T 15 (e_T 14 (e_L 14 (0, ei_load 0 2 15, 0, 0)) (e_L 15 (0, ei_getf eft elay 12 0 18, 0, 0))) (e_T 18 (e_L 18 (0, ei_push (0, 1) 19, 0, 0)) (e_L 19 (0, ei_ald elay false 20, 0, 0)))))) (e_T 32 (e_T 24 (e_T 20 (e_L 20 (0, ei_push (0, 1) 21, 0, 0)) (e_T 21 (e_L 21 (0, ei_if2 1 31 24, 0, 0)) (e_L 24 (0, ei_load 0 2 25, 0, 0)))) (e_T 28 (e_T 25 (e_L 25 (2, e_nof, 400, 1)) (e_L 28 (0, ei_goto 32, 0, 0))) (e_T 31 (e_L 31 (0, ei_push (0, (-1)) 32, 0, 0)) (e_L 32 (0, ei_stor 1 0 33, 0, 0))))) (e_T 37 (e_T 33 (e_L 33 (0, ei_load 1 0 34, 0, 0)) (e_T 34 (e_L 34 (0, ei_if1 2 43 37, 0, 0)) (e_L 37 (0, ei_load 0 2 38, 0, 0)))) (e_T 39 (e_T 38 (e_L 38 (0, ei_push (0, 1) 39, 0, 0)) (e_L 39 (0, ei_load 1 0 40, 0, 0))) (e_T 40 (e_L 40 (2, e_nof, 385, 3)) (e_L 43 (0, ei_push (0, 0) 44, 0, 0)))))))
set_option maxRecDepth 20000 in
set_option maxHeartbeats 4000000 in
theorem te_408_0_ok : ∀ pc, e_EOq eft cls elay eI n_408 pc (te_408_0 pc) :=
  (e_Tok2
  (e_Tok2
  (e_Tok2
  (e_Tok2
  (e_Lok (ld_aload_n_0 (x_dk dn_408_0_0_ok 0 rfl)))
  (e_Tok2
  (e_Lok (lk_12_8g ho_408 (x_dk dn_408_0_0_ok 1 rfl)))
  (e_Lok (ps_iconst_0 (x_dk dn_408_0_0_ok 2 rfl)))))
  (e_Tok2
  (e_Tok2
  (e_Lok (e_st (I := eI) (er_dup2 (x_dk dn_408_0_0_ok 3 rfl)) (nx_stk bf_dup2)))
  (e_Lok (sm_iaload (x_dk dn_408_0_0_ok 4 rfl))))
  (e_Tok2
  (e_Lok (ps_iconst_1 (x_dk dn_408_0_0_ok 5 rfl)))
  (e_Lok (sm_iadd (x_dk dn_408_0_0_ok 6 rfl))))))
  (e_Tok2
  (e_Tok2
  (e_Lok (sm_iastore (x_dk dn_408_0_0_ok 7 rfl)))
  (e_Tok2
  (e_Lok (ld_aload_n_0 (x_dk dn_408_0_0_ok 8 rfl)))
  (e_Lok (lk_12_795 ho_408 (x_dk dn_408_0_0_ok 9 rfl)))))
  (e_Tok2
  (e_Tok2
  (e_Lok (ld_aload_n_0 (x_dk dn_408_0_0_ok 10 rfl)))
  (e_Lok (lk_12_8g ho_408 (x_dk dn_408_0_0_ok 11 rfl))))
  (e_Tok2
  (e_Lok (ps_iconst_1 (x_dk dn_408_0_0_ok 12 rfl)))
  (e_Lok (sm_iaload (x_dk dn_408_0_0_ok 13 rfl)))))))
  (e_Tok2
  (e_Tok2
  (e_Tok2
  (e_Lok (ps_iconst_1 (x_dk dn_408_0_0_ok 14 rfl)))
  (e_Tok2
  (e_Lok (e_st (I := eI) (er_icmpne (off := 10) (tg := 31) (x_dk dn_408_0_0_ok 15 rfl) (by decide)) nx_if2))
  (e_Lok (ld_aload_n_0 (x_dk dn_408_0_0_ok 16 rfl)))))
  (e_Tok2
  (e_Tok2
  (e_Lok (lk_12_798 ho_408 (x_dk dn_408_0_0_ok 17 rfl)))
  (e_Lok (e_st (I := eI) (er_goto (off := 4) (tg := 32) (x_dk dn_408_0_0_ok 18 rfl) (by decide)) nx_goto)))
  (e_Tok2
  (e_Lok (ps_iconst_m1 (x_dk dn_408_0_0_ok 19 rfl)))
  (e_Lok (e_st (I := eI) (er_istore_n (i := 1) (x_dk dn_408_0_0_ok 20 rfl) (by decide +kernel)) nx_stor)))))
  (e_Tok2
  (e_Tok2
  (e_Lok (ld_iload_n_1 (x_dk dn_408_0_0_ok 21 rfl)))
  (e_Tok2
  (e_Lok (e_st (I := eI) (er_iflt (off := 9) (tg := 43) (x_dk dn_408_0_0_ok 22 rfl) (by decide)) nx_if1))
  (e_Lok (ld_aload_n_0 (x_dk dn_408_0_0_ok 23 rfl)))))
  (e_Tok2
  (e_Tok2
  (e_Lok (ps_iconst_1 (x_dk dn_408_0_0_ok 24 rfl)))
  (e_Lok (ld_iload_n_1 (x_dk dn_408_0_1_ok 0 rfl))))
  (e_Tok2
  (e_Lok (lk_12_789 ho_408 (x_dk dn_408_0_1_ok 1 rfl)))
  (e_Lok (ps_iconst_0 (x_dk dn_408_0_1_ok 2 rfl))))))))
def te_408_28 : Nat → eE := (e_T 66 (e_T 55 (e_T 46 (e_T 44 (e_L 44 (0, ei_stor 2 0 45, 0, 0)) (e_T 45 (e_L 45 (0, ei_load 2 0 46, 0, 0)) (e_L 46 (0, ei_push (0, 16) 48, 0, 0)))) (e_T 51 (e_T 48 (e_L 48 (0, ei_if2 3 127 51, 0, 0)) (e_L 51 (0, ei_load 0 2 52, 0, 0))) (e_T 52 (e_L 52 (0, ei_getf eft elay 12 0 55, 0, 0)) (e_L 55 (0, ei_load 2 0 56, 0, 0))))) (e_T 60 (e_T 56 (e_L 56 (2, e_nof, 269, 1)) (e_T 59 (e_L 59 (0, ei_ald elay false 60, 0, 0)) (e_L 60 (0, ei_stor 3 0 61, 0, 0)))) (e_T 62 (e_T 61 (e_L 61 (0, ei_load 3 0 62, 0, 0)) (e_L 62 (0, ei_if1 5 121 65, 0, 0))) (e_T 65 (e_L 65 (0, ei_load 3 0 66, 0, 0)) (e_L 66 (0, ei_push (0, 6) 68, 0, 0)))))) (e_T 81 (e_T 72 (e_T 68 (e_L 68 (0, ei_if2 3 121 71, 0, 0)) (e_T 71 (e_L 71 (0, ei_load 0 2 72, 0, 0)) (e_L 72 (0, ei_getf eft elay 12 0 75, 0, 0)))) (e_T 76 (e_T 75 (e_L 75 (0, ei_load 2 0 76, 0, 0)) (e_L 76 (2, e_nof, 269, 1))) (e_T 79 (e_L 79 (0, ei_push (0, 11) 81, 0, 0)) (e_L 81 (0, ei_bin eF_add 82, 0, 0))))) (e_T 84 (e_T 82 (e_L 82 (0, ei_ald elay false 83, 0, 0)) (e_T 83 (e_L 83 (0, ei_load 0 2 84, 0, 0)) (e_L 84 (0, ei_getf eft elay 12 0 87, 0, 0)))) (e_T 88 (e_T 87 (e_L 87 (0, ei_push (0, 0) 88, 0, 0)) (e_L 88 (0, ei_ald elay false 89, 0, 0))) (e_T 89 (e_L 89 (0, ei_if2 4 121 92, 0, 0)) (e_L 92 (0, ei_load 0 2 93, 0, 0)))))))
set_option maxRecDepth 20000 in
set_option maxHeartbeats 4000000 in
theorem te_408_28_ok : ∀ pc, e_EOq eft cls elay eI n_408 pc (te_408_28 pc) :=
  (e_Tok2
  (e_Tok2
  (e_Tok2
  (e_Tok2
  (e_Lok (e_st (I := eI) (er_istore_n (i := 2) (x_dk dn_408_0_1_ok 3 rfl) (by decide +kernel)) nx_stor))
  (e_Tok2
  (e_Lok (ld_iload_n_2 (x_dk dn_408_0_1_ok 4 rfl)))
  (e_Lok (ps_bipush_16 (x_dk dn_408_0_1_ok 5 rfl)))))
  (e_Tok2
  (e_Tok2
  (e_Lok (e_st (I := eI) (er_icmpge (off := 79) (tg := 127) (x_dk dn_408_0_1_ok 6 rfl) (by decide)) nx_if2))
  (e_Lok (ld_aload_n_0 (x_dk dn_408_0_1_ok 7 rfl))))
  (e_Tok2
  (e_Lok (lk_12_8g ho_408 (x_dk dn_408_0_1_ok 8 rfl)))
  (e_Lok (ld_iload_n_2 (x_dk dn_408_0_1_ok 9 rfl))))))
  (e_Tok2
  (e_Tok2
  (e_Lok (lk_12_298 ho_408 (x_dk dn_408_0_1_ok 10 rfl)))
  (e_Tok2
  (e_Lok (sm_iaload (x_dk dn_408_0_1_ok 11 rfl)))
  (e_Lok (e_st (I := eI) (er_istore_n (i := 3) (x_dk dn_408_0_1_ok 12 rfl) (by decide +kernel)) nx_stor))))
  (e_Tok2
  (e_Tok2
  (e_Lok (ld_iload_n_3 (x_dk dn_408_0_1_ok 13 rfl)))
  (e_Lok (e_st (I := eI) (er_ifle (off := 59) (tg := 121) (x_dk dn_408_0_1_ok 14 rfl) (by decide)) nx_if1)))
  (e_Tok2
  (e_Lok (ld_iload_n_3 (x_dk dn_408_0_1_ok 15 rfl)))
  (e_Lok (ps_bipush_6 (x_dk dn_408_0_1_ok 16 rfl)))))))
  (e_Tok2
  (e_Tok2
  (e_Tok2
  (e_Lok (e_st (I := eI) (er_icmpge (off := 53) (tg := 121) (x_dk dn_408_0_1_ok 17 rfl) (by decide)) nx_if2))
  (e_Tok2
  (e_Lok (ld_aload_n_0 (x_dk dn_408_0_1_ok 18 rfl)))
  (e_Lok (lk_12_8g ho_408 (x_dk dn_408_0_1_ok 19 rfl)))))
  (e_Tok2
  (e_Tok2
  (e_Lok (ld_iload_n_2 (x_dk dn_408_0_1_ok 20 rfl)))
  (e_Lok (lk_12_298 ho_408 (x_dk dn_408_0_1_ok 21 rfl))))
  (e_Tok2
  (e_Lok (ps_bipush_11 (x_dk dn_408_0_1_ok 22 rfl)))
  (e_Lok (sm_iadd (x_dk dn_408_0_1_ok 23 rfl))))))
  (e_Tok2
  (e_Tok2
  (e_Lok (sm_iaload (x_dk dn_408_0_1_ok 24 rfl)))
  (e_Tok2
  (e_Lok (ld_aload_n_0 (x_dk dn_408_0_2_ok 0 rfl)))
  (e_Lok (lk_12_8g ho_408 (x_dk dn_408_0_2_ok 1 rfl)))))
  (e_Tok2
  (e_Tok2
  (e_Lok (ps_iconst_0 (x_dk dn_408_0_2_ok 2 rfl)))
  (e_Lok (sm_iaload (x_dk dn_408_0_2_ok 3 rfl))))
  (e_Tok2
  (e_Lok (e_st (I := eI) (er_icmpgt (off := 32) (tg := 121) (x_dk dn_408_0_2_ok 4 rfl) (by decide)) nx_if2))
  (e_Lok (ld_aload_n_0 (x_dk dn_408_0_2_ok 5 rfl))))))))
def te_408_56 : Nat → eE := (e_T 116 (e_T 105 (e_T 97 (e_T 93 (e_L 93 (0, ei_getf eft elay 12 0 96, 0, 0)) (e_T 96 (e_L 96 (0, ei_load 0 2 97, 0, 0)) (e_L 97 (0, ei_getf eft elay 12 0 100, 0, 0)))) (e_T 101 (e_T 100 (e_L 100 (0, ei_load 2 0 101, 0, 0)) (e_L 101 (2, e_nof, 269, 1))) (e_T 104 (e_L 104 (0, ei_push (0, 1) 105, 0, 0)) (e_L 105 (0, ei_bin eF_add 106, 0, 0))))) (e_T 110 (e_T 106 (e_L 106 (0, ei_ald elay false 107, 0, 0)) (e_T 107 (e_L 107 (2, e_nof, 268, 1)) (e_L 110 (0, ei_push (0, 2) 111, 0, 0)))) (e_T 112 (e_T 111 (e_L 111 (0, ei_bin eF_add 112, 0, 0)) (e_L 112 (0, ei_ald elay false 113, 0, 0))) (e_T 113 (e_L 113 (0, ei_if1 3 121 116, 0, 0)) (e_L 116 (0, ei_load 0 2 117, 0, 0)))))) (e_T 131 (e_T 121 (e_T 117 (e_L 117 (0, ei_load 2 0 118, 0, 0)) (e_T 118 (e_L 118 (2, e_nof, 366, 2)) (e_L 121 (0, ei_inc 2 1 124, 0, 0)))) (e_T 127 (e_T 124 (e_L 124 (0, ei_goto 45, 0, 0)) (e_L 127 (0, ei_load 0 2 128, 0, 0))) (e_T 128 (e_L 128 (0, ei_getf eft elay 12 0 131, 0, 0)) (e_L 131 (0, ei_push (0, 1) 132, 0, 0))))) (e_T 134 (e_T 132 (e_L 132 (0, ei_ald elay false 133, 0, 0)) (e_T 133 (e_L 133 (0, ei_push (0, 1) 134, 0, 0)) (e_L 134 (0, ei_if2 1 141 137, 0, 0)))) (e_T 138 (e_T 137 (e_L 137 (0, ei_push (0, 1) 138, 0, 0)) (e_L 138 (0, ei_goto 142, 0, 0))) (e_T 141 (e_L 141 (0, ei_push (0, 0) 142, 0, 0)) (e_L 142 (0, ei_stor 2 0 143, 0, 0)))))))
set_option maxRecDepth 20000 in
set_option maxHeartbeats 4000000 in
theorem te_408_56_ok : ∀ pc, e_EOq eft cls elay eI n_408 pc (te_408_56 pc) :=
  (e_Tok2
  (e_Tok2
  (e_Tok2
  (e_Tok2
  (e_Lok (lk_12_8g ho_408 (x_dk dn_408_0_2_ok 6 rfl)))
  (e_Tok2
  (e_Lok (ld_aload_n_0 (x_dk dn_408_0_2_ok 7 rfl)))
  (e_Lok (lk_12_8g ho_408 (x_dk dn_408_0_2_ok 8 rfl)))))
  (e_Tok2
  (e_Tok2
  (e_Lok (ld_iload_n_2 (x_dk dn_408_0_2_ok 9 rfl)))
  (e_Lok (lk_12_298 ho_408 (x_dk dn_408_0_2_ok 10 rfl))))
  (e_Tok2
  (e_Lok (ps_iconst_1 (x_dk dn_408_0_2_ok 11 rfl)))
  (e_Lok (sm_iadd (x_dk dn_408_0_2_ok 12 rfl))))))
  (e_Tok2
  (e_Tok2
  (e_Lok (sm_iaload (x_dk dn_408_0_2_ok 13 rfl)))
  (e_Tok2
  (e_Lok (lk_12_294 ho_408 (x_dk dn_408_0_2_ok 14 rfl)))
  (e_Lok (ps_iconst_2 (x_dk dn_408_0_2_ok 15 rfl)))))
  (e_Tok2
  (e_Tok2
  (e_Lok (sm_iadd (x_dk dn_408_0_2_ok 16 rfl)))
  (e_Lok (sm_iaload (x_dk dn_408_0_2_ok 17 rfl))))
  (e_Tok2
  (e_Lok (e_st (I := eI) (er_ifge (off := 8) (tg := 121) (x_dk dn_408_0_2_ok 18 rfl) (by decide)) nx_if1))
  (e_Lok (ld_aload_n_0 (x_dk dn_408_0_2_ok 19 rfl)))))))
  (e_Tok2
  (e_Tok2
  (e_Tok2
  (e_Lok (ld_iload_n_2 (x_dk dn_408_0_2_ok 20 rfl)))
  (e_Tok2
  (e_Lok (lk_12_801 ho_408 (x_dk dn_408_0_2_ok 21 rfl)))
  (e_Lok (e_st (I := eI) (er_iinc (i := 2) (n := 1) (x_dk dn_408_0_2_ok 22 rfl) (by decide +kernel) (by decide)) nx_inc))))
  (e_Tok2
  (e_Tok2
  (e_Lok (e_st (I := eI) (er_goto (off := (-79)) (tg := 45) (x_dk dn_408_0_2_ok 23 rfl) (by decide)) nx_goto))
  (e_Lok (ld_aload_n_0 (x_dk dn_408_0_2_ok 24 rfl))))
  (e_Tok2
  (e_Lok (lk_12_8g ho_408 (x_dk dn_408_0_3_ok 0 rfl)))
  (e_Lok (ps_iconst_1 (x_dk dn_408_0_3_ok 1 rfl))))))
  (e_Tok2
  (e_Tok2
  (e_Lok (sm_iaload (x_dk dn_408_0_3_ok 2 rfl)))
  (e_Tok2
  (e_Lok (ps_iconst_1 (x_dk dn_408_0_3_ok 3 rfl)))
  (e_Lok (e_st (I := eI) (er_icmpne (off := 7) (tg := 141) (x_dk dn_408_0_3_ok 4 rfl) (by decide)) nx_if2))))
  (e_Tok2
  (e_Tok2
  (e_Lok (ps_iconst_1 (x_dk dn_408_0_3_ok 5 rfl)))
  (e_Lok (e_st (I := eI) (er_goto (off := 4) (tg := 142) (x_dk dn_408_0_3_ok 6 rfl) (by decide)) nx_goto)))
  (e_Tok2
  (e_Lok (ps_iconst_0 (x_dk dn_408_0_3_ok 7 rfl)))
  (e_Lok (e_st (I := eI) (er_istore_n (i := 2) (x_dk dn_408_0_3_ok 8 rfl) (by decide +kernel)) nx_stor)))))))
def te_408_84 : Nat → eE := (e_T 168 (e_T 153 (e_T 147 (e_T 143 (e_L 143 (0, ei_load 2 0 144, 0, 0)) (e_T 144 (e_L 144 (0, ei_if1 0 151 147, 0, 0)) (e_L 147 (0, ei_load 0 2 148, 0, 0)))) (e_T 151 (e_T 148 (e_L 148 (2, e_nof, 402, 1)) (e_L 151 (0, ei_load 0 2 152, 0, 0))) (e_T 152 (e_L 152 (0, ei_load 2 0 153, 0, 0)) (e_L 153 (2, e_nof, 403, 2))))) (e_T 160 (e_T 156 (e_L 156 (0, ei_load 0 2 157, 0, 0)) (e_T 157 (e_L 157 (2, e_nof, 302, 1)) (e_L 160 (0, ei_load 2 0 161, 0, 0)))) (e_T 164 (e_T 161 (e_L 161 (0, ei_if1 0 168 164, 0, 0)) (e_L 164 (0, ei_load 0 2 165, 0, 0))) (e_T 165 (e_L 165 (2, e_nof, 406, 1)) (e_L 168 (0, ei_push (0, 0) 169, 0, 0)))))) (e_T 179 (e_T 171 (e_T 169 (e_L 169 (0, ei_stor 3 0 170, 0, 0)) (e_T 170 (e_L 170 (0, ei_load 3 0 171, 0, 0)) (e_L 171 (0, ei_load 0 2 172, 0, 0)))) (e_T 175 (e_T 172 (e_L 172 (0, ei_getf eft elay 12 30 175, 0, 0)) (e_L 175 (0, ei_if2 3 189 178, 0, 0))) (e_T 178 (e_L 178 (0, ei_load 0 2 179, 0, 0)) (e_L 179 (0, ei_load 3 0 180, 0, 0))))) (e_T 189 (e_T 183 (e_T 180 (e_L 180 (2, e_nof, 398, 2)) (e_L 183 (0, ei_inc 3 1 186, 0, 0))) (e_T 186 (e_L 186 (0, ei_goto 170, 0, 0)) (e_L 189 (0, ei_load 0 2 190, 0, 0)))) (e_T 193 (e_T 190 (e_L 190 (2, e_nof, 303, 1)) (e_L 193 (0, ei_load 0 2 194, 0, 0))) (e_T 194 (e_L 194 (2, e_nof, 407, 1)) (e_L 197 (1, e_nof, 0, 0)))))))
set_option maxRecDepth 20000 in
set_option maxHeartbeats 4000000 in
theorem te_408_84_ok : ∀ pc, e_EOq eft cls elay eI n_408 pc (te_408_84 pc) :=
  (e_Tok2
  (e_Tok2
  (e_Tok2
  (e_Tok2
  (e_Lok (ld_iload_n_2 (x_dk dn_408_0_3_ok 9 rfl)))
  (e_Tok2
  (e_Lok (e_st (I := eI) (er_ifeq (off := 7) (tg := 151) (x_dk dn_408_0_3_ok 10 rfl) (by decide)) nx_if1))
  (e_Lok (ld_aload_n_0 (x_dk dn_408_0_3_ok 11 rfl)))))
  (e_Tok2
  (e_Tok2
  (e_Lok (lk_12_804 ho_408 (x_dk dn_408_0_3_ok 12 rfl)))
  (e_Lok (ld_aload_n_0 (x_dk dn_408_0_3_ok 13 rfl))))
  (e_Tok2
  (e_Lok (ld_iload_n_2 (x_dk dn_408_0_3_ok 14 rfl)))
  (e_Lok (lk_12_807 ho_408 (x_dk dn_408_0_3_ok 15 rfl))))))
  (e_Tok2
  (e_Tok2
  (e_Lok (ld_aload_n_0 (x_dk dn_408_0_3_ok 16 rfl)))
  (e_Tok2
  (e_Lok (lk_12_401 ho_408 (x_dk dn_408_0_3_ok 17 rfl)))
  (e_Lok (ld_iload_n_2 (x_dk dn_408_0_3_ok 18 rfl)))))
  (e_Tok2
  (e_Tok2
  (e_Lok (e_st (I := eI) (er_ifeq (off := 7) (tg := 168) (x_dk dn_408_0_3_ok 19 rfl) (by decide)) nx_if1))
  (e_Lok (ld_aload_n_0 (x_dk dn_408_0_3_ok 20 rfl))))
  (e_Tok2
  (e_Lok (lk_12_810 ho_408 (x_dk dn_408_0_3_ok 21 rfl)))
  (e_Lok (ps_iconst_0 (x_dk dn_408_0_3_ok 22 rfl)))))))
  (e_Tok2
  (e_Tok2
  (e_Tok2
  (e_Lok (e_st (I := eI) (er_istore_n (i := 3) (x_dk dn_408_0_3_ok 23 rfl) (by decide +kernel)) nx_stor))
  (e_Tok2
  (e_Lok (ld_iload_n_3 (x_dk dn_408_0_3_ok 24 rfl)))
  (e_Lok (ld_aload_n_0 (x_dk dn_408_1_0_ok 0 rfl)))))
  (e_Tok2
  (e_Tok2
  (e_Lok (lk_12_276g ho_408 (x_dk dn_408_1_0_ok 1 rfl)))
  (e_Lok (e_st (I := eI) (er_icmpge (off := 14) (tg := 189) (x_dk dn_408_1_0_ok 2 rfl) (by decide)) nx_if2)))
  (e_Tok2
  (e_Lok (ld_aload_n_0 (x_dk dn_408_1_0_ok 3 rfl)))
  (e_Lok (ld_iload_n_3 (x_dk dn_408_1_0_ok 4 rfl))))))
  (e_Tok2
  (e_Tok2
  (e_Tok2
  (e_Lok (lk_12_813 ho_408 (x_dk dn_408_1_0_ok 5 rfl)))
  (e_Lok (e_st (I := eI) (er_iinc (i := 3) (n := 1) (x_dk dn_408_1_0_ok 6 rfl) (by decide +kernel) (by decide)) nx_inc)))
  (e_Tok2
  (e_Lok (e_st (I := eI) (er_goto (off := (-16)) (tg := 170) (x_dk dn_408_1_0_ok 7 rfl) (by decide)) nx_goto))
  (e_Lok (ld_aload_n_0 (x_dk dn_408_1_0_ok 8 rfl)))))
  (e_Tok2
  (e_Tok2
  (e_Lok (lk_12_369 ho_408 (x_dk dn_408_1_0_ok 9 rfl)))
  (e_Lok (ld_aload_n_0 (x_dk dn_408_1_0_ok 10 rfl))))
  (e_Tok2
  (e_Lok (lk_12_816 ho_408 (x_dk dn_408_1_0_ok 11 rfl)))
  (e_Lok (e_rt (I := eI) (k := 0) ⟨(x_dk dn_408_1_0_ok 12 rfl), rfl⟩)))))))
def te_408 : Nat → eE := (e_T 92 (e_T 43 te_408_0 te_408_28) (e_T 142 te_408_56 te_408_84))
theorem te_408_ok : ∀ pc, e_EOq eft cls elay eI n_408 pc (te_408 pc) := (e_Tok2 ((e_Tok2 (te_408_0_ok) (te_408_28_ok))) ((e_Tok2 (te_408_56_ok) (te_408_84_ok))))
theorem ho_409 : (xm_y n_409).cls = "RobotCellHouseModel" := rfl
def dn_409_0_0 : List (Nat × Instr × Nat) := [(0, .lconst 1, 1), (1, .lstore_n 3, 1), (2, .iconst 0, 1), (3, .istore 5, 2), (5, .iload 5, 2), (7, .aload_n 0, 1), (8, .getfield 43, 3), (11, .iload_n 1, 1), (12, .iaload, 1), (13, .if_icmp .ge 115, 3), (16, .aload_n 0, 1), (17, .getfield 8, 3), (20, .iload_n 1, 1), (21, .invokestatic 294, 3), (24, .bipush 16, 2), (26, .iadd, 1), (27, .iload 5, 2), (29, .iadd, 1), (30, .iaload, 1), (31, .istore 6, 2), (33, .iload 6, 2), (35, .aload_n 0, 1), (36, .getfield 49, 3), (39, .bipush 6, 2), (41, .iload_n 1, 1)]
set_option maxRecDepth 20000 in
theorem dn_409_0_0_ok : dn_409_0_0.all (fun q => decide (decode (xm_b n_409) q.1 = .ok (q.2.1, q.2.2))) = true := xa_g_ok (by decide +kernel)
def dn_409_0_1 : List (Nat × Instr × Nat) := [(42, .imul, 1), (43, .iload 5, 2), (45, .iadd, 1), (46, .iaload, 1), (47, .isub, 1), (48, .iload_n 2, 1), (49, .idiv, 1), (50, .istore 7, 2), (52, .aload_n 0, 1), (53, .getfield 52, 3), (56, .bipush 6, 2), (58, .iload_n 1, 1), (59, .imul, 1), (60, .iload 5, 2), (62, .iadd, 1), (63, .iaload, 1), (64, .iload 6, 2), (66, .isub, 1), (67, .iload_n 2, 1), (68, .idiv, 1), (69, .istore 8, 2), (71, .aload_n 0, 1), (72, .getfield 231, 3), (75, .iload 5, 2), (77, .iload 6, 2)]
set_option maxRecDepth 20000 in
theorem dn_409_0_1_ok : dn_409_0_1.all (fun q => decide (decode (xm_b n_409) q.1 = .ok (q.2.1, q.2.2))) = true := xa_g_ok (by decide +kernel)
def dn_409_0_2 : List (Nat × Instr × Nat) := [(79, .iload 7, 2), (81, .iload_n 2, 1), (82, .imul, 1), (83, .isub, 1), (84, .iastore, 1), (85, .aload_n 0, 1), (86, .getfield 228, 3), (89, .iload 5, 2), (91, .iload 7, 2), (93, .iload 8, 2), (95, .iadd, 1), (96, .iconst 1, 1), (97, .iadd, 1), (98, .iastore, 1), (99, .lload_n 3, 1), (100, .ldc2_w 365, 3), (103, .lcmp, 1), (104, .ifCond .le 7, 3), (107, .lload_n 3, 1), (108, .goto 13, 3), (111, .lload_n 3, 1), (112, .aload_n 0, 1), (113, .getfield 228, 3), (116, .iload 5, 2), (118, .iaload, 1)]
set_option maxRecDepth 20000 in
theorem dn_409_0_2_ok : dn_409_0_2.all (fun q => decide (decode (xm_b n_409) q.1 = .ok (q.2.1, q.2.2))) = true := xa_g_ok (by decide +kernel)
def dn_409_0_3 : List (Nat × Instr × Nat) := [(119, .i2l, 1), (120, .lmul, 1), (121, .lstore_n 3, 1), (122, .iinc 5 1, 3), (125, .goto (-120), 3), (128, .lload_n 3, 1), (129, .ldc2_w 365, 3), (132, .lcmp, 1), (133, .ifCond .le 9, 3), (136, .sipush 1001, 3), (139, .goto 5, 3), (142, .lload_n 3, 1), (143, .l2i, 1), (144, .ireturn, 1)]
set_option maxRecDepth 20000 in
theorem dn_409_0_3_ok : dn_409_0_3.all (fun q => decide (decode (xm_b n_409) q.1 = .ok (q.2.1, q.2.2))) = true := xa_g_ok (by decide +kernel)
def te_409_0 : Nat → eE := (e_T 16 (e_T 5 (e_T 1 (e_T 0 (e_L 0 (0, ei_push (4, 1) 1, 0, 0)) (e_L 1 (0, ei_stor 3 1 2, 0, 0))) (e_T 2 (e_L 2 (0, ei_push (0, 0) 3, 0, 0)) (e_T 3 (e_L 3 (0, ei_stor 5 0 5, 0, 0)) (e_L 5 (0, ei_load 5 0 7, 0, 0))))) (e_T 11 (e_T 7 (e_L 7 (0, ei_load 0 2 8, 0, 0)) (e_T 8 (e_L 8 (0, ei_getf eft elay 12 15 11, 0, 0)) (e_L 11 (0, ei_load 1 0 12, 0, 0)))) (e_T 12 (e_L 12 (0, ei_ald elay false 13, 0, 0)) (e_T 13 (e_L 13 (0, ei_if2 3 128 16, 0, 0)) (e_L 16 (0, ei_load 0 2 17, 0, 0)))))) (e_T 26 (e_T 20 (e_T 17 (e_L 17 (0, ei_getf eft elay 12 0 20, 0, 0)) (e_L 20 (0, ei_load 1 0 21, 0, 0))) (e_T 21 (e_L 21 (2, e_nof, 268, 1)) (e_T 24 (e_L 24 (0, ei_push (0, 16) 26, 0, 0)) (e_L 26 (0, ei_bin eF_add 27, 0, 0))))) (e_T 30 (e_T 27 (e_L 27 (0, ei_load 5 0 29, 0, 0)) (e_T 29 (e_L 29 (0, ei_bin eF_add 30, 0, 0)) (e_L 30 (0, ei_ald elay false 31, 0, 0)))) (e_T 31 (e_L 31 (0, ei_stor 6 0 33, 0, 0)) (e_T 33 (e_L 33 (0, ei_load 6 0 35, 0, 0)) (e_L 35 (0, ei_load 0 2 36, 0, 0)))))))
set_option maxRecDepth 20000 in
set_option maxHeartbeats 4000000 in
theorem te_409_0_ok : ∀ pc, e_EOq eft cls elay eI n_409 pc (te_409_0 pc) :=
  (e_Tok2
  (e_Tok2
  (e_Tok2
  (e_Tok2
  (e_Lok (ps_lconst_1 (x_dk dn_409_0_0_ok 0 rfl)))
  (e_Lok (e_st (I := eI) (er_lstore_n (i := 3) (x_dk dn_409_0_0_ok 1 rfl) (by decide +kernel)) nx_stor)))
  (e_Tok2
  (e_Lok (ps_iconst_0 (x_dk dn_409_0_0_ok 2 rfl)))
  (e_Tok2
  (e_Lok (e_st (I := eI) (er_istore (i := 5) (x_dk dn_409_0_0_ok 3 rfl) (by decide +kernel)) nx_stor))
  (e_Lok (ld_iload_5 (x_dk dn_409_0_0_ok 4 rfl))))))
  (e_Tok2
  (e_Tok2
  (e_Lok (ld_aload_n_0 (x_dk dn_409_0_0_ok 5 rfl)))
  (e_Tok2
  (e_Lok (lk_12_43g ho_409 (x_dk dn_409_0_0_ok 6 rfl)))
  (e_Lok (ld_iload_n_1 (x_dk dn_409_0_0_ok 7 rfl)))))
  (e_Tok2
  (e_Lok (sm_iaload (x_dk dn_409_0_0_ok 8 rfl)))
  (e_Tok2
  (e_Lok (e_st (I := eI) (er_icmpge (off := 115) (tg := 128) (x_dk dn_409_0_0_ok 9 rfl) (by decide)) nx_if2))
  (e_Lok (ld_aload_n_0 (x_dk dn_409_0_0_ok 10 rfl)))))))
  (e_Tok2
  (e_Tok2
  (e_Tok2
  (e_Lok (lk_12_8g ho_409 (x_dk dn_409_0_0_ok 11 rfl)))
  (e_Lok (ld_iload_n_1 (x_dk dn_409_0_0_ok 12 rfl))))
  (e_Tok2
  (e_Lok (lk_12_294 ho_409 (x_dk dn_409_0_0_ok 13 rfl)))
  (e_Tok2
  (e_Lok (ps_bipush_16 (x_dk dn_409_0_0_ok 14 rfl)))
  (e_Lok (sm_iadd (x_dk dn_409_0_0_ok 15 rfl))))))
  (e_Tok2
  (e_Tok2
  (e_Lok (ld_iload_5 (x_dk dn_409_0_0_ok 16 rfl)))
  (e_Tok2
  (e_Lok (sm_iadd (x_dk dn_409_0_0_ok 17 rfl)))
  (e_Lok (sm_iaload (x_dk dn_409_0_0_ok 18 rfl)))))
  (e_Tok2
  (e_Lok (e_st (I := eI) (er_istore (i := 6) (x_dk dn_409_0_0_ok 19 rfl) (by decide +kernel)) nx_stor))
  (e_Tok2
  (e_Lok (ld_iload_6 (x_dk dn_409_0_0_ok 20 rfl)))
  (e_Lok (ld_aload_n_0 (x_dk dn_409_0_0_ok 21 rfl))))))))
def te_409_22 : Nat → eE := (e_T 50 (e_T 43 (e_T 39 (e_T 36 (e_L 36 (0, ei_getf eft elay 12 17 39, 0, 0)) (e_L 39 (0, ei_push (0, 6) 41, 0, 0))) (e_T 41 (e_L 41 (0, ei_load 1 0 42, 0, 0)) (e_T 42 (e_L 42 (0, ei_bin eF_mul 43, 0, 0)) (e_L 43 (0, ei_load 5 0 45, 0, 0))))) (e_T 47 (e_T 45 (e_L 45 (0, ei_bin eF_add 46, 0, 0)) (e_T 46 (e_L 46 (0, ei_ald elay false 47, 0, 0)) (e_L 47 (0, ei_bin eF_sub 48, 0, 0)))) (e_T 48 (e_L 48 (0, ei_load 2 0 49, 0, 0)) (e_T 49 (e_L 49 (0, ei_bin eF_div 50, 0, 0)) (e_L 50 (0, ei_stor 7 0 52, 0, 0)))))) (e_T 59 (e_T 53 (e_T 52 (e_L 52 (0, ei_load 0 2 53, 0, 0)) (e_L 53 (0, ei_getf eft elay 12 18 56, 0, 0))) (e_T 56 (e_L 56 (0, ei_push (0, 6) 58, 0, 0)) (e_T 58 (e_L 58 (0, ei_load 1 0 59, 0, 0)) (e_L 59 (0, ei_bin eF_mul 60, 0, 0))))) (e_T 63 (e_T 60 (e_L 60 (0, ei_load 5 0 62, 0, 0)) (e_T 62 (e_L 62 (0, ei_bin eF_add 63, 0, 0)) (e_L 63 (0, ei_ald elay false 64, 0, 0)))) (e_T 64 (e_L 64 (0, ei_load 6 0 66, 0, 0)) (e_T 66 (e_L 66 (0, ei_bin eF_sub 67, 0, 0)) (e_L 67 (0, ei_load 2 0 68, 0, 0)))))))
set_option maxRecDepth 20000 in
set_option maxHeartbeats 4000000 in
theorem te_409_22_ok : ∀ pc, e_EOq eft cls elay eI n_409 pc (te_409_22 pc) :=
  (e_Tok2
  (e_Tok2
  (e_Tok2
  (e_Tok2
  (e_Lok (lk_12_49g ho_409 (x_dk dn_409_0_0_ok 22 rfl)))
  (e_Lok (ps_bipush_6 (x_dk dn_409_0_0_ok 23 rfl))))
  (e_Tok2
  (e_Lok (ld_iload_n_1 (x_dk dn_409_0_0_ok 24 rfl)))
  (e_Tok2
  (e_Lok (sm_imul (x_dk dn_409_0_1_ok 0 rfl)))
  (e_Lok (ld_iload_5 (x_dk dn_409_0_1_ok 1 rfl))))))
  (e_Tok2
  (e_Tok2
  (e_Lok (sm_iadd (x_dk dn_409_0_1_ok 2 rfl)))
  (e_Tok2
  (e_Lok (sm_iaload (x_dk dn_409_0_1_ok 3 rfl)))
  (e_Lok (sm_isub (x_dk dn_409_0_1_ok 4 rfl)))))
  (e_Tok2
  (e_Lok (ld_iload_n_2 (x_dk dn_409_0_1_ok 5 rfl)))
  (e_Tok2
  (e_Lok (e_st (I := eI) (er_idiv (x_dk dn_409_0_1_ok 6 rfl)) nx_bin))
  (e_Lok (e_st (I := eI) (er_istore (i := 7) (x_dk dn_409_0_1_ok 7 rfl) (by decide +kernel)) nx_stor))))))
  (e_Tok2
  (e_Tok2
  (e_Tok2
  (e_Lok (ld_aload_n_0 (x_dk dn_409_0_1_ok 8 rfl)))
  (e_Lok (lk_12_52g ho_409 (x_dk dn_409_0_1_ok 9 rfl))))
  (e_Tok2
  (e_Lok (ps_bipush_6 (x_dk dn_409_0_1_ok 10 rfl)))
  (e_Tok2
  (e_Lok (ld_iload_n_1 (x_dk dn_409_0_1_ok 11 rfl)))
  (e_Lok (sm_imul (x_dk dn_409_0_1_ok 12 rfl))))))
  (e_Tok2
  (e_Tok2
  (e_Lok (ld_iload_5 (x_dk dn_409_0_1_ok 13 rfl)))
  (e_Tok2
  (e_Lok (sm_iadd (x_dk dn_409_0_1_ok 14 rfl)))
  (e_Lok (sm_iaload (x_dk dn_409_0_1_ok 15 rfl)))))
  (e_Tok2
  (e_Lok (ld_iload_6 (x_dk dn_409_0_1_ok 16 rfl)))
  (e_Tok2
  (e_Lok (sm_isub (x_dk dn_409_0_1_ok 17 rfl)))
  (e_Lok (ld_iload_n_2 (x_dk dn_409_0_1_ok 18 rfl))))))))
def te_409_44 : Nat → eE := (e_T 84 (e_T 75 (e_T 69 (e_T 68 (e_L 68 (0, ei_bin eF_div 69, 0, 0)) (e_L 69 (0, ei_stor 8 0 71, 0, 0))) (e_T 71 (e_L 71 (0, ei_load 0 2 72, 0, 0)) (e_T 72 (e_L 72 (0, ei_getf eft elay 12 105 75, 0, 0)) (e_L 75 (0, ei_load 5 0 77, 0, 0))))) (e_T 81 (e_T 77 (e_L 77 (0, ei_load 6 0 79, 0, 0)) (e_T 79 (e_L 79 (0, ei_load 7 0 81, 0, 0)) (e_L 81 (0, ei_load 2 0 82, 0, 0)))) (e_T 82 (e_L 82 (0, ei_bin eF_mul 83, 0, 0)) (e_T 83 (e_L 83 (0, ei_bin eF_sub 84, 0, 0)) (e_L 84 (0, ei_ast elay false 85, 0, 0)))))) (e_T 93 (e_T 86 (e_T 85 (e_L 85 (0, ei_load 0 2 86, 0, 0)) (e_L 86 (0, ei_getf eft elay 12 104 89, 0, 0))) (e_T 89 (e_L 89 (0, ei_load 5 0 91, 0, 0)) (e_T 91 (e_L 91 (0, ei_load 7 0 93, 0, 0)) (e_L 93 (0, ei_load 8 0 95, 0, 0))))) (e_T 97 (e_T 95 (e_L 95 (0, ei_bin eF_add 96, 0, 0)) (e_T 96 (e_L 96 (0, ei_push (0, 1) 97, 0, 0)) (e_L 97 (0, ei_bin eF_add 98, 0, 0)))) (e_T 98 (e_L 98 (0, ei_ast elay false 99, 0, 0)) (e_T 99 (e_L 99 (0, ei_load 3 1 100, 0, 0)) (e_L 100 (0, ei_push (4, 1000) 103, 0, 0)))))))
set_option maxRecDepth 20000 in
set_option maxHeartbeats 4000000 in
theorem te_409_44_ok : ∀ pc, e_EOq eft cls elay eI n_409 pc (te_409_44 pc) :=
  (e_Tok2
  (e_Tok2
  (e_Tok2
  (e_Tok2
  (e_Lok (e_st (I := eI) (er_idiv (x_dk dn_409_0_1_ok 19 rfl)) nx_bin))
  (e_Lok (e_st (I := eI) (er_istore (i := 8) (x_dk dn_409_0_1_ok 20 rfl) (by decide +kernel)) nx_stor)))
  (e_Tok2
  (e_Lok (ld_aload_n_0 (x_dk dn_409_0_1_ok 21 rfl)))
  (e_Tok2
  (e_Lok (lk_12_231g ho_409 (x_dk dn_409_0_1_ok 22 rfl)))
  (e_Lok (ld_iload_5 (x_dk dn_409_0_1_ok 23 rfl))))))
  (e_Tok2
  (e_Tok2
  (e_Lok (ld_iload_6 (x_dk dn_409_0_1_ok 24 rfl)))
  (e_Tok2
  (e_Lok (ld_iload_7 (x_dk dn_409_0_2_ok 0 rfl)))
  (e_Lok (ld_iload_n_2 (x_dk dn_409_0_2_ok 1 rfl)))))
  (e_Tok2
  (e_Lok (sm_imul (x_dk dn_409_0_2_ok 2 rfl)))
  (e_Tok2
  (e_Lok (sm_isub (x_dk dn_409_0_2_ok 3 rfl)))
  (e_Lok (sm_iastore (x_dk dn_409_0_2_ok 4 rfl)))))))
  (e_Tok2
  (e_Tok2
  (e_Tok2
  (e_Lok (ld_aload_n_0 (x_dk dn_409_0_2_ok 5 rfl)))
  (e_Lok (lk_12_228g ho_409 (x_dk dn_409_0_2_ok 6 rfl))))
  (e_Tok2
  (e_Lok (ld_iload_5 (x_dk dn_409_0_2_ok 7 rfl)))
  (e_Tok2
  (e_Lok (ld_iload_7 (x_dk dn_409_0_2_ok 8 rfl)))
  (e_Lok (ld_iload_8 (x_dk dn_409_0_2_ok 9 rfl))))))
  (e_Tok2
  (e_Tok2
  (e_Lok (sm_iadd (x_dk dn_409_0_2_ok 10 rfl)))
  (e_Tok2
  (e_Lok (ps_iconst_1 (x_dk dn_409_0_2_ok 11 rfl)))
  (e_Lok (sm_iadd (x_dk dn_409_0_2_ok 12 rfl)))))
  (e_Tok2
  (e_Lok (sm_iastore (x_dk dn_409_0_2_ok 13 rfl)))
  (e_Tok2
  (e_Lok (ld_lload_n_3 (x_dk dn_409_0_2_ok 14 rfl)))
  (e_Lok (e_st (I := eI) (er_ldc2 (ix := 365) (z := 1000) (v := 1000) (x_dk dn_409_0_2_ok 15 rfl) (in_t11 (List.mem_of_getElem? (i := 115) rfl) rfl) (by decide)) (nx_push (Or.inl rfl)))))))))
def te_409_66 : Nat → eE := (e_T 120 (e_T 111 (e_T 104 (e_T 103 (e_L 103 (0, ei_binL eG_cmp 104, 0, 0)) (e_L 104 (0, ei_if1 5 111 107, 0, 0))) (e_T 107 (e_L 107 (0, ei_load 3 1 108, 0, 0)) (e_T 108 (e_L 108 (0, ei_goto 121, 0, 0)) (e_L 111 (0, ei_load 3 1 112, 0, 0))))) (e_T 116 (e_T 112 (e_L 112 (0, ei_load 0 2 113, 0, 0)) (e_T 113 (e_L 113 (0, ei_getf eft elay 12 104 116, 0, 0)) (e_L 116 (0, ei_load 5 0 118, 0, 0)))) (e_T 118 (e_L 118 (0, ei_ald elay false 119, 0, 0)) (e_T 119 (e_L 119 (0, ei_un (fun x => (4, x)) 120, 0, 0)) (e_L 120 (0, ei_binL eG_mul 121, 0, 0)))))) (e_T 132 (e_T 125 (e_T 121 (e_L 121 (0, ei_stor 3 1 122, 0, 0)) (e_T 122 (e_L 122 (0, ei_inc 5 1 125, 0, 0)) (e_L 125 (0, ei_goto 5, 0, 0)))) (e_T 128 (e_L 128 (0, ei_load 3 1 129, 0, 0)) (e_T 129 (e_L 129 (0, ei_push (4, 1000) 132, 0, 0)) (e_L 132 (0, ei_binL eG_cmp 133, 0, 0))))) (e_T 139 (e_T 133 (e_L 133 (0, ei_if1 5 142 136, 0, 0)) (e_T 136 (e_L 136 (0, ei_push (0, 1001) 139, 0, 0)) (e_L 139 (0, ei_goto 144, 0, 0)))) (e_T 142 (e_L 142 (0, ei_load 3 1 143, 0, 0)) (e_T 143 (e_L 143 (0, ei_unL (fun x => (0, e32 x)) 144, 0, 0)) (e_L 144 (1, e_nof, 1, 0)))))))
set_option maxRecDepth 20000 in
set_option maxHeartbeats 4000000 in
theorem te_409_66_ok : ∀ pc, e_EOq eft cls elay eI n_409 pc (te_409_66 pc) :=
  (e_Tok2
  (e_Tok2
  (e_Tok2
  (e_Tok2
  (e_Lok (e_st (I := eI) (er_lcmp (x_dk dn_409_0_2_ok 16 rfl)) (nx_binL bG_lcmp)))
  (e_Lok (e_st (I := eI) (er_ifle (off := 7) (tg := 111) (x_dk dn_409_0_2_ok 17 rfl) (by decide)) nx_if1)))
  (e_Tok2
  (e_Lok (ld_lload_n_3 (x_dk dn_409_0_2_ok 18 rfl)))
  (e_Tok2
  (e_Lok (e_st (I := eI) (er_goto (off := 13) (tg := 121) (x_dk dn_409_0_2_ok 19 rfl) (by decide)) nx_goto))
  (e_Lok (ld_lload_n_3 (x_dk dn_409_0_2_ok 20 rfl))))))
  (e_Tok2
  (e_Tok2
  (e_Lok (ld_aload_n_0 (x_dk dn_409_0_2_ok 21 rfl)))
  (e_Tok2
  (e_Lok (lk_12_228g ho_409 (x_dk dn_409_0_2_ok 22 rfl)))
  (e_Lok (ld_iload_5 (x_dk dn_409_0_2_ok 23 rfl)))))
  (e_Tok2
  (e_Lok (sm_iaload (x_dk dn_409_0_2_ok 24 rfl)))
  (e_Tok2
  (e_Lok (e_st (I := eI) (er_i2l (x_dk dn_409_0_3_ok 0 rfl)) (nx_un (fun _ => rfl))))
  (e_Lok (e_st (I := eI) (er_lmul (x_dk dn_409_0_3_ok 1 rfl)) (nx_binL bG_lmul)))))))
  (e_Tok2
  (e_Tok2
  (e_Tok2
  (e_Lok (e_st (I := eI) (er_lstore_n (i := 3) (x_dk dn_409_0_3_ok 2 rfl) (by decide +kernel)) nx_stor))
  (e_Tok2
  (e_Lok (e_st (I := eI) (er_iinc (i := 5) (n := 1) (x_dk dn_409_0_3_ok 3 rfl) (by decide +kernel) (by decide)) nx_inc))
  (e_Lok (e_st (I := eI) (er_goto (off := (-120)) (tg := 5) (x_dk dn_409_0_3_ok 4 rfl) (by decide)) nx_goto))))
  (e_Tok2
  (e_Lok (ld_lload_n_3 (x_dk dn_409_0_3_ok 5 rfl)))
  (e_Tok2
  (e_Lok (e_st (I := eI) (er_ldc2 (ix := 365) (z := 1000) (v := 1000) (x_dk dn_409_0_3_ok 6 rfl) (in_t11 (List.mem_of_getElem? (i := 115) rfl) rfl) (by decide)) (nx_push (Or.inl rfl))))
  (e_Lok (e_st (I := eI) (er_lcmp (x_dk dn_409_0_3_ok 7 rfl)) (nx_binL bG_lcmp))))))
  (e_Tok2
  (e_Tok2
  (e_Lok (e_st (I := eI) (er_ifle (off := 9) (tg := 142) (x_dk dn_409_0_3_ok 8 rfl) (by decide)) nx_if1))
  (e_Tok2
  (e_Lok (ps_sipush_1001 (x_dk dn_409_0_3_ok 9 rfl)))
  (e_Lok (e_st (I := eI) (er_goto (off := 5) (tg := 144) (x_dk dn_409_0_3_ok 10 rfl) (by decide)) nx_goto))))
  (e_Tok2
  (e_Lok (ld_lload_n_3 (x_dk dn_409_0_3_ok 11 rfl)))
  (e_Tok2
  (e_Lok (e_st (I := eI) (er_l2i (x_dk dn_409_0_3_ok 12 rfl)) (nx_unL (fun _ => rfl))))
  (e_Lok (e_rt (I := eI) (k := 1) ⟨(x_dk dn_409_0_3_ok 13 rfl), rfl⟩)))))))
def te_409 : Nat → eE := (e_T 67 (e_T 35 te_409_0 te_409_22) (e_T 100 te_409_44 te_409_66))
theorem te_409_ok : ∀ pc, e_EOq eft cls elay eI n_409 pc (te_409 pc) := (e_Tok2 ((e_Tok2 (te_409_0_ok) (te_409_22_ok))) ((e_Tok2 (te_409_44_ok) (te_409_66_ok))))
end
end
-- part 41bi
section
noncomputable section
theorem ho_410 : (xm_y n_410).cls = "RobotCellHouseModel" := rfl
def dn_410_0_0 : List (Nat × Instr × Nat) := [(0, .iload_n 1, 1), (1, .istore_n 3, 1), (2, .iconst 0, 1), (3, .istore 4, 2), (5, .iload 4, 2), (7, .iload_n 2, 1), (8, .if_icmp .ge 19, 3), (11, .iload_n 3, 1), (12, .aload_n 0, 1), (13, .getfield 228, 3), (16, .iload 4, 2), (18, .iaload, 1), (19, .idiv, 1), (20, .istore_n 3, 1), (21, .iinc 4 1, 3), (24, .goto (-19), 3), (27, .iload_n 3, 1), (28, .aload_n 0, 1), (29, .getfield 228, 3), (32, .iload_n 2, 1), (33, .iaload, 1), (34, .irem, 1), (35, .ireturn, 1)]
set_option maxRecDepth 20000 in
theorem dn_410_0_0_ok : dn_410_0_0.all (fun q => decide (decode (xm_b n_410) q.1 = .ok (q.2.1, q.2.2))) = true := xa_g_ok (by decide +kernel)
def te_410_0 : Nat → eE := (e_T 16 (e_T 5 (e_T 1 (e_T 0 (e_L 0 (0, ei_load 1 0 1, 0, 0)) (e_L 1 (0, ei_stor 3 0 2, 0, 0))) (e_T 2 (e_L 2 (0, ei_push (0, 0) 3, 0, 0)) (e_T 3 (e_L 3 (0, ei_stor 4 0 5, 0, 0)) (e_L 5 (0, ei_load 4 0 7, 0, 0))))) (e_T 11 (e_T 7 (e_L 7 (0, ei_load 2 0 8, 0, 0)) (e_T 8 (e_L 8 (0, ei_if2 3 27 11, 0, 0)) (e_L 11 (0, ei_load 3 0 12, 0, 0)))) (e_T 12 (e_L 12 (0, ei_load 0 2 13, 0, 0)) (e_T 13 (e_L 13 (0, ei_getf eft elay 12 104 16, 0, 0)) (e_L 16 (0, ei_load 4 0 18, 0, 0)))))) (e_T 27 (e_T 20 (e_T 18 (e_L 18 (0, ei_ald elay false 19, 0, 0)) (e_T 19 (e_L 19 (0, ei_bin eF_div 20, 0, 0)) (e_L 20 (0, ei_stor 3 0 21, 0, 0)))) (e_T 21 (e_L 21 (0, ei_inc 4 1 24, 0, 0)) (e_T 24 (e_L 24 (0, ei_goto 5, 0, 0)) (e_L 27 (0, ei_load 3 0 28, 0, 0))))) (e_T 32 (e_T 28 (e_L 28 (0, ei_load 0 2 29, 0, 0)) (e_T 29 (e_L 29 (0, ei_getf eft elay 12 104 32, 0, 0)) (e_L 32 (0, ei_load 2 0 33, 0, 0)))) (e_T 33 (e_L 33 (0, ei_ald elay false 34, 0, 0)) (e_T 34 (e_L 34 (0, ei_bin eF_rem 35, 0, 0)) (e_L 35 (1, e_nof, 1, 0)))))))
set_option maxRecDepth 20000 in
set_option maxHeartbeats 4000000 in
theorem te_410_0_ok : ∀ pc, e_EOq eft cls elay eI n_410 pc (te_410_0 pc) :=
  (e_Tok2
  (e_Tok2
  (e_Tok2
  (e_Tok2
  (e_Lok (ld_iload_n_1 (x_dk dn_410_0_0_ok 0 rfl)))
  (e_Lok (e_st (I := eI) (er_istore_n (i := 3) (x_dk dn_410_0_0_ok 1 rfl) (by decide +kernel)) nx_stor)))
  (e_Tok2
  (e_Lok (ps_iconst_0 (x_dk dn_410_0_0_ok 2 rfl)))
  (e_Tok2
  (e_Lok (e_st (I := eI) (er_istore (i := 4) (x_dk dn_410_0_0_ok 3 rfl) (by decide +kernel)) nx_stor))
  (e_Lok (ld_iload_4 (x_dk dn_410_0_0_ok 4 rfl))))))
  (e_Tok2
  (e_Tok2
  (e_Lok (ld_iload_n_2 (x_dk dn_410_0_0_ok 5 rfl)))
  (e_Tok2
  (e_Lok (e_st (I := eI) (er_icmpge (off := 19) (tg := 27) (x_dk dn_410_0_0_ok 6 rfl) (by decide)) nx_if2))
  (e_Lok (ld_iload_n_3 (x_dk dn_410_0_0_ok 7 rfl)))))
  (e_Tok2
  (e_Lok (ld_aload_n_0 (x_dk dn_410_0_0_ok 8 rfl)))
  (e_Tok2
  (e_Lok (lk_12_228g ho_410 (x_dk dn_410_0_0_ok 9 rfl)))
  (e_Lok (ld_iload_4 (x_dk dn_410_0_0_ok 10 rfl)))))))
  (e_Tok2
  (e_Tok2
  (e_Tok2
  (e_Lok (sm_iaload (x_dk dn_410_0_0_ok 11 rfl)))
  (e_Tok2
  (e_Lok (e_st (I := eI) (er_idiv (x_dk dn_410_0_0_ok 12 rfl)) nx_bin))
  (e_Lok (e_st (I := eI) (er_istore_n (i := 3) (x_dk dn_410_0_0_ok 13 rfl) (by decide +kernel)) nx_stor))))
  (e_Tok2
  (e_Lok (e_st (I := eI) (er_iinc (i := 4) (n := 1) (x_dk dn_410_0_0_ok 14 rfl) (by decide +kernel) (by decide)) nx_inc))
  (e_Tok2
  (e_Lok (e_st (I := eI) (er_goto (off := (-19)) (tg := 5) (x_dk dn_410_0_0_ok 15 rfl) (by decide)) nx_goto))
  (e_Lok (ld_iload_n_3 (x_dk dn_410_0_0_ok 16 rfl))))))
  (e_Tok2
  (e_Tok2
  (e_Lok (ld_aload_n_0 (x_dk dn_410_0_0_ok 17 rfl)))
  (e_Tok2
  (e_Lok (lk_12_228g ho_410 (x_dk dn_410_0_0_ok 18 rfl)))
  (e_Lok (ld_iload_n_2 (x_dk dn_410_0_0_ok 19 rfl)))))
  (e_Tok2
  (e_Lok (sm_iaload (x_dk dn_410_0_0_ok 20 rfl)))
  (e_Tok2
  (e_Lok (e_st (I := eI) (er_irem (x_dk dn_410_0_0_ok 21 rfl)) nx_bin))
  (e_Lok (e_rt (I := eI) (k := 1) ⟨(x_dk dn_410_0_0_ok 22 rfl), rfl⟩)))))))
def te_410 : Nat → eE := te_410_0
theorem te_410_ok : ∀ pc, e_EOq eft cls elay eI n_410 pc (te_410 pc) := te_410_0_ok
theorem ho_411 : (xm_y n_411).cls = "RobotCellHouseModel" := rfl
def dn_411_0_0 : List (Nat × Instr × Nat) := [(0, .iconst 1, 1), (1, .istore_n 2, 1), (2, .iconst 0, 1), (3, .istore_n 3, 1), (4, .iload_n 3, 1), (5, .iload_n 1, 1), (6, .if_icmp .ge 18, 3), (9, .iload_n 2, 1), (10, .aload_n 0, 1), (11, .getfield 228, 3), (14, .iload_n 3, 1), (15, .iaload, 1), (16, .imul, 1), (17, .istore_n 2, 1), (18, .iinc 3 1, 3), (21, .goto (-17), 3), (24, .iload_n 2, 1), (25, .ireturn, 1)]
set_option maxRecDepth 20000 in
theorem dn_411_0_0_ok : dn_411_0_0.all (fun q => decide (decode (xm_b n_411) q.1 = .ok (q.2.1, q.2.2))) = true := xa_g_ok (by decide +kernel)
def te_411_0 : Nat → eE := (e_T 10 (e_T 3 (e_T 1 (e_T 0 (e_L 0 (0, ei_push (0, 1) 1, 0, 0)) (e_L 1 (0, ei_stor 2 0 2, 0, 0))) (e_T 2 (e_L 2 (0, ei_push (0, 0) 3, 0, 0)) (e_L 3 (0, ei_stor 3 0 4, 0, 0)))) (e_T 5 (e_T 4 (e_L 4 (0, ei_load 3 0 5, 0, 0)) (e_L 5 (0, ei_load 1 0 6, 0, 0))) (e_T 6 (e_L 6 (0, ei_if2 3 24 9, 0, 0)) (e_T 9 (e_L 9 (0, ei_load 2 0 10, 0, 0)) (e_L 10 (0, ei_load 0 2 11, 0, 0)))))) (e_T 16 (e_T 14 (e_T 11 (e_L 11 (0, ei_getf eft elay 12 104 14, 0, 0)) (e_L 14 (0, ei_load 3 0 15, 0, 0))) (e_T 15 (e_L 15 (0, ei_ald elay false 16, 0, 0)) (e_L 16 (0, ei_bin eF_mul 17, 0, 0)))) (e_T 18 (e_T 17 (e_L 17 (0, ei_stor 2 0 18, 0, 0)) (e_L 18 (0, ei_inc 3 1 21, 0, 0))) (e_T 21 (e_L 21 (0, ei_goto 4, 0, 0)) (e_T 24 (e_L 24 (0, ei_load 2 0 25, 0, 0)) (e_L 25 (1, e_nof, 1, 0)))))))
set_option maxRecDepth 20000 in
set_option maxHeartbeats 4000000 in
theorem te_411_0_ok : ∀ pc, e_EOq eft cls elay eI n_411 pc (te_411_0 pc) :=
  (e_Tok2
  (e_Tok2
  (e_Tok2
  (e_Tok2
  (e_Lok (ps_iconst_1 (x_dk dn_411_0_0_ok 0 rfl)))
  (e_Lok (e_st (I := eI) (er_istore_n (i := 2) (x_dk dn_411_0_0_ok 1 rfl) (by decide +kernel)) nx_stor)))
  (e_Tok2
  (e_Lok (ps_iconst_0 (x_dk dn_411_0_0_ok 2 rfl)))
  (e_Lok (e_st (I := eI) (er_istore_n (i := 3) (x_dk dn_411_0_0_ok 3 rfl) (by decide +kernel)) nx_stor))))
  (e_Tok2
  (e_Tok2
  (e_Lok (ld_iload_n_3 (x_dk dn_411_0_0_ok 4 rfl)))
  (e_Lok (ld_iload_n_1 (x_dk dn_411_0_0_ok 5 rfl))))
  (e_Tok2
  (e_Lok (e_st (I := eI) (er_icmpge (off := 18) (tg := 24) (x_dk dn_411_0_0_ok 6 rfl) (by decide)) nx_if2))
  (e_Tok2
  (e_Lok (ld_iload_n_2 (x_dk dn_411_0_0_ok 7 rfl)))
  (e_Lok (ld_aload_n_0 (x_dk dn_411_0_0_ok 8 rfl)))))))
  (e_Tok2
  (e_Tok2
  (e_Tok2
  (e_Lok (lk_12_228g ho_411 (x_dk dn_411_0_0_ok 9 rfl)))
  (e_Lok (ld_iload_n_3 (x_dk dn_411_0_0_ok 10 rfl))))
  (e_Tok2
  (e_Lok (sm_iaload (x_dk dn_411_0_0_ok 11 rfl)))
  (e_Lok (sm_imul (x_dk dn_411_0_0_ok 12 rfl)))))
  (e_Tok2
  (e_Tok2
  (e_Lok (e_st (I := eI) (er_istore_n (i := 2) (x_dk dn_411_0_0_ok 13 rfl) (by decide +kernel)) nx_stor))
  (e_Lok (e_st (I := eI) (er_iinc (i := 3) (n := 1) (x_dk dn_411_0_0_ok 14 rfl) (by decide +kernel) (by decide)) nx_inc)))
  (e_Tok2
  (e_Lok (e_st (I := eI) (er_goto (off := (-17)) (tg := 4) (x_dk dn_411_0_0_ok 15 rfl) (by decide)) nx_goto))
  (e_Tok2
  (e_Lok (ld_iload_n_2 (x_dk dn_411_0_0_ok 16 rfl)))
  (e_Lok (e_rt (I := eI) (k := 1) ⟨(x_dk dn_411_0_0_ok 17 rfl), rfl⟩)))))))
def te_411 : Nat → eE := te_411_0
theorem te_411_ok : ∀ pc, e_EOq eft cls elay eI n_411 pc (te_411 pc) := te_411_0_ok
theorem ho_412 : (xm_y n_412).cls = "RobotCellHouseModel" := rfl
def dn_412_0_0 : List (Nat × Instr × Nat) := [(0, .iconst 0, 1), (1, .istore_n 2, 1), (2, .iload_n 2, 1), (3, .aload_n 0, 1), (4, .getfield 43, 3), (7, .aload_n 0, 1), (8, .getfield 819, 3), (11, .iaload, 1), (12, .if_icmp .ge 33, 3), (15, .aload_n 0, 1), (16, .getfield 155, 3), (19, .iload_n 2, 1), (20, .aload_n 0, 1), (21, .getfield 231, 3), (24, .iload_n 2, 1), (25, .iaload, 1), (26, .aload_n 0, 1), (27, .getfield 822, 3), (30, .aload_n 0, 1), (31, .iload_n 1, 1), (32, .iload_n 2, 1), (33, .invokevirtual 825, 3), (36, .imul, 1), (37, .iadd, 1), (38, .iastore, 1)]
set_option maxRecDepth 20000 in
theorem dn_412_0_0_ok : dn_412_0_0.all (fun q => decide (decode (xm_b n_412) q.1 = .ok (q.2.1, q.2.2))) = true := xa_g_ok (by decide +kernel)
def dn_412_0_1 : List (Nat × Instr × Nat) := [(39, .iinc 2 1, 3), (42, .goto (-40), 3), (45, .return_, 1)]
set_option maxRecDepth 20000 in
theorem dn_412_0_1_ok : dn_412_0_1.all (fun q => decide (decode (xm_b n_412) q.1 = .ok (q.2.1, q.2.2))) = true := xa_g_ok (by decide +kernel)
def te_412_0 : Nat → eE := (e_T 21 (e_T 8 (e_T 2 (e_T 0 (e_L 0 (0, ei_push (0, 0) 1, 0, 0)) (e_T 1 (e_L 1 (0, ei_stor 2 0 2, 0, 0)) (e_L 2 (0, ei_load 2 0 3, 0, 0)))) (e_T 4 (e_T 3 (e_L 3 (0, ei_load 0 2 4, 0, 0)) (e_L 4 (0, ei_getf eft elay 12 15 7, 0, 0))) (e_T 7 (e_L 7 (0, ei_load 0 2 8, 0, 0)) (e_L 8 (0, ei_getf eft elay 12 110 11, 0, 0))))) (e_T 15 (e_T 11 (e_L 11 (0, ei_ald elay false 12, 0, 0)) (e_T 12 (e_L 12 (0, ei_if2 3 45 15, 0, 0)) (e_L 15 (0, ei_load 0 2 16, 0, 0)))) (e_T 19 (e_T 16 (e_L 16 (0, ei_getf eft elay 12 57 19, 0, 0)) (e_L 19 (0, ei_load 2 0 20, 0, 0))) (e_T 20 (e_L 20 (0, ei_load 0 2 21, 0, 0)) (e_L 21 (0, ei_getf eft elay 12 105 24, 0, 0)))))) (e_T 32 (e_T 26 (e_T 24 (e_L 24 (0, ei_load 2 0 25, 0, 0)) (e_T 25 (e_L 25 (0, ei_ald elay false 26, 0, 0)) (e_L 26 (0, ei_load 0 2 27, 0, 0)))) (e_T 30 (e_T 27 (e_L 27 (0, ei_getf eft elay 12 111 30, 0, 0)) (e_L 30 (0, ei_load 0 2 31, 0, 0))) (e_T 31 (e_L 31 (0, ei_load 1 0 32, 0, 0)) (e_L 32 (0, ei_load 2 0 33, 0, 0))))) (e_T 37 (e_T 33 (e_L 33 (2, e_nof, 410, 3)) (e_T 36 (e_L 36 (0, ei_bin eF_mul 37, 0, 0)) (e_L 37 (0, ei_bin eF_add 38, 0, 0)))) (e_T 39 (e_T 38 (e_L 38 (0, ei_ast elay false 39, 0, 0)) (e_L 39 (0, ei_inc 2 1 42, 0, 0))) (e_T 42 (e_L 42 (0, ei_goto 2, 0, 0)) (e_L 45 (1, e_nof, 0, 0)))))))
set_option maxRecDepth 20000 in
set_option maxHeartbeats 4000000 in
theorem te_412_0_ok : ∀ pc, e_EOq eft cls elay eI n_412 pc (te_412_0 pc) :=
  (e_Tok2
  (e_Tok2
  (e_Tok2
  (e_Tok2
  (e_Lok (ps_iconst_0 (x_dk dn_412_0_0_ok 0 rfl)))
  (e_Tok2
  (e_Lok (e_st (I := eI) (er_istore_n (i := 2) (x_dk dn_412_0_0_ok 1 rfl) (by decide +kernel)) nx_stor))
  (e_Lok (ld_iload_n_2 (x_dk dn_412_0_0_ok 2 rfl)))))
  (e_Tok2
  (e_Tok2
  (e_Lok (ld_aload_n_0 (x_dk dn_412_0_0_ok 3 rfl)))
  (e_Lok (lk_12_43g ho_412 (x_dk dn_412_0_0_ok 4 rfl))))
  (e_Tok2
  (e_Lok (ld_aload_n_0 (x_dk dn_412_0_0_ok 5 rfl)))
  (e_Lok (lk_12_819g ho_412 (x_dk dn_412_0_0_ok 6 rfl))))))
  (e_Tok2
  (e_Tok2
  (e_Lok (sm_iaload (x_dk dn_412_0_0_ok 7 rfl)))
  (e_Tok2
  (e_Lok (e_st (I := eI) (er_icmpge (off := 33) (tg := 45) (x_dk dn_412_0_0_ok 8 rfl) (by decide)) nx_if2))
  (e_Lok (ld_aload_n_0 (x_dk dn_412_0_0_ok 9 rfl)))))
  (e_Tok2
  (e_Tok2
  (e_Lok (lk_12_155g ho_412 (x_dk dn_412_0_0_ok 10 rfl)))
  (e_Lok (ld_iload_n_2 (x_dk dn_412_0_0_ok 11 rfl))))
  (e_Tok2
  (e_Lok (ld_aload_n_0 (x_dk dn_412_0_0_ok 12 rfl)))
  (e_Lok (lk_12_231g ho_412 (x_dk dn_412_0_0_ok 13 rfl)))))))
  (e_Tok2
  (e_Tok2
  (e_Tok2
  (e_Lok (ld_iload_n_2 (x_dk dn_412_0_0_ok 14 rfl)))
  (e_Tok2
  (e_Lok (sm_iaload (x_dk dn_412_0_0_ok 15 rfl)))
  (e_Lok (ld_aload_n_0 (x_dk dn_412_0_0_ok 16 rfl)))))
  (e_Tok2
  (e_Tok2
  (e_Lok (lk_12_822g ho_412 (x_dk dn_412_0_0_ok 17 rfl)))
  (e_Lok (ld_aload_n_0 (x_dk dn_412_0_0_ok 18 rfl))))
  (e_Tok2
  (e_Lok (ld_iload_n_1 (x_dk dn_412_0_0_ok 19 rfl)))
  (e_Lok (ld_iload_n_2 (x_dk dn_412_0_0_ok 20 rfl))))))
  (e_Tok2
  (e_Tok2
  (e_Lok (lk_12_825 ho_412 (x_dk dn_412_0_0_ok 21 rfl)))
  (e_Tok2
  (e_Lok (sm_imul (x_dk dn_412_0_0_ok 22 rfl)))
  (e_Lok (sm_iadd (x_dk dn_412_0_0_ok 23 rfl)))))
  (e_Tok2
  (e_Tok2
  (e_Lok (sm_iastore (x_dk dn_412_0_0_ok 24 rfl)))
  (e_Lok (e_st (I := eI) (er_iinc (i := 2) (n := 1) (x_dk dn_412_0_1_ok 0 rfl) (by decide +kernel) (by decide)) nx_inc)))
  (e_Tok2
  (e_Lok (e_st (I := eI) (er_goto (off := (-40)) (tg := 2) (x_dk dn_412_0_1_ok 1 rfl) (by decide)) nx_goto))
  (e_Lok (e_rt (I := eI) (k := 0) ⟨(x_dk dn_412_0_1_ok 2 rfl), rfl⟩)))))))
def te_412 : Nat → eE := te_412_0
theorem te_412_ok : ∀ pc, e_EOq eft cls elay eI n_412 pc (te_412 pc) := te_412_0_ok
theorem ho_413 : (xm_y n_413).cls = "RobotCellHouseModel" := rfl
def dn_413_0_0 : List (Nat × Instr × Nat) := [(0, .aload_n 0, 1), (1, .aload_n 0, 1), (2, .getfield 819, 3), (5, .iconst 1, 1), (6, .invokevirtual 397, 3), (9, .aload_n 0, 1), (10, .aload_n 0, 1), (11, .getfield 819, 3), (14, .bipush 28, 2), (16, .aload_n 0, 1), (17, .getfield 828, 3), (20, .invokevirtual 461, 3), (23, .ifCond .ne 7, 3), (26, .iconst 1, 1), (27, .goto 4, 3), (30, .iconst 0, 1), (31, .ireturn, 1)]
set_option maxRecDepth 20000 in
theorem dn_413_0_0_ok : dn_413_0_0.all (fun q => decide (decode (xm_b n_413) q.1 = .ok (q.2.1, q.2.2))) = true := xa_g_ok (by decide +kernel)
def te_413_0 : Nat → eE := (e_T 11 (e_T 5 (e_T 1 (e_T 0 (e_L 0 (0, ei_load 0 2 1, 0, 0)) (e_L 1 (0, ei_load 0 2 2, 0, 0))) (e_T 2 (e_L 2 (0, ei_getf eft elay 12 110 5, 0, 0)) (e_L 5 (0, ei_push (0, 1) 6, 0, 0)))) (e_T 9 (e_T 6 (e_L 6 (2, e_nof, 301, 3)) (e_L 9 (0, ei_load 0 2 10, 0, 0))) (e_T 10 (e_L 10 (0, ei_load 0 2 11, 0, 0)) (e_L 11 (0, ei_getf eft elay 12 110 14, 0, 0))))) (e_T 20 (e_T 16 (e_T 14 (e_L 14 (0, ei_push (0, 28) 16, 0, 0)) (e_L 16 (0, ei_load 0 2 17, 0, 0))) (e_T 17 (e_L 17 (0, ei_getf eft elay 12 112 20, 0, 0)) (e_L 20 (2, e_nof, 317, 4)))) (e_T 26 (e_T 23 (e_L 23 (0, ei_if1 1 30 26, 0, 0)) (e_L 26 (0, ei_push (0, 1) 27, 0, 0))) (e_T 27 (e_L 27 (0, ei_goto 31, 0, 0)) (e_T 30 (e_L 30 (0, ei_push (0, 0) 31, 0, 0)) (e_L 31 (1, e_nof, 4, 0)))))))
set_option maxRecDepth 20000 in
set_option maxHeartbeats 4000000 in
theorem te_413_0_ok : ∀ pc, e_EOq eft cls elay eI n_413 pc (te_413_0 pc) :=
  (e_Tok2
  (e_Tok2
  (e_Tok2
  (e_Tok2
  (e_Lok (ld_aload_n_0 (x_dk dn_413_0_0_ok 0 rfl)))
  (e_Lok (ld_aload_n_0 (x_dk dn_413_0_0_ok 1 rfl))))
  (e_Tok2
  (e_Lok (lk_12_819g ho_413 (x_dk dn_413_0_0_ok 2 rfl)))
  (e_Lok (ps_iconst_1 (x_dk dn_413_0_0_ok 3 rfl)))))
  (e_Tok2
  (e_Tok2
  (e_Lok (lk_12_397 ho_413 (x_dk dn_413_0_0_ok 4 rfl)))
  (e_Lok (ld_aload_n_0 (x_dk dn_413_0_0_ok 5 rfl))))
  (e_Tok2
  (e_Lok (ld_aload_n_0 (x_dk dn_413_0_0_ok 6 rfl)))
  (e_Lok (lk_12_819g ho_413 (x_dk dn_413_0_0_ok 7 rfl))))))
  (e_Tok2
  (e_Tok2
  (e_Tok2
  (e_Lok (ps_bipush_28 (x_dk dn_413_0_0_ok 8 rfl)))
  (e_Lok (ld_aload_n_0 (x_dk dn_413_0_0_ok 9 rfl))))
  (e_Tok2
  (e_Lok (lk_12_828g ho_413 (x_dk dn_413_0_0_ok 10 rfl)))
  (e_Lok (lk_12_461 ho_413 (x_dk dn_413_0_0_ok 11 rfl)))))
  (e_Tok2
  (e_Tok2
  (e_Lok (e_st (I := eI) (er_ifne (off := 7) (tg := 30) (x_dk dn_413_0_0_ok 12 rfl) (by decide)) nx_if1))
  (e_Lok (ps_iconst_1 (x_dk dn_413_0_0_ok 13 rfl))))
  (e_Tok2
  (e_Lok (e_st (I := eI) (er_goto (off := 4) (tg := 31) (x_dk dn_413_0_0_ok 14 rfl) (by decide)) nx_goto))
  (e_Tok2
  (e_Lok (ps_iconst_0 (x_dk dn_413_0_0_ok 15 rfl)))
  (e_Lok (e_rt (I := eI) (k := 4) ⟨(x_dk dn_413_0_0_ok 16 rfl), rfl⟩)))))))
def te_413 : Nat → eE := te_413_0
theorem te_413_ok : ∀ pc, e_EOq eft cls elay eI n_413 pc (te_413 pc) := te_413_0_ok
theorem ho_414 : (xm_y n_414).cls = "RobotCellHouseModel" := rfl
def dn_414_0_0 : List (Nat × Instr × Nat) := [(0, .aload_n 0, 1), (1, .getfield 240, 3), (4, .iload_n 1, 1), (5, .iaload, 1), (6, .ifCond .ne 26, 3), (9, .aload_n 0, 1), (10, .iload_n 1, 1), (11, .invokevirtual 831, 3), (14, .aload_n 0, 1), (15, .getfield 240, 3), (18, .iload_n 1, 1), (19, .aload_n 0, 1), (20, .invokevirtual 834, 3), (23, .ifCond .eq 7, 3), (26, .iconst 1, 1), (27, .goto 4, 3), (30, .iconst 2, 1), (31, .iastore, 1), (32, .aload_n 0, 1), (33, .getfield 240, 3), (36, .iload_n 1, 1), (37, .iaload, 1), (38, .iconst 1, 1), (39, .if_icmp .ne 7, 3), (42, .iconst 1, 1)]
set_option maxRecDepth 20000 in
theorem dn_414_0_0_ok : dn_414_0_0.all (fun q => decide (decode (xm_b n_414) q.1 = .ok (q.2.1, q.2.2))) = true := xa_g_ok (by decide +kernel)
def dn_414_0_1 : List (Nat × Instr × Nat) := [(43, .goto 4, 3), (46, .iconst 0, 1), (47, .ireturn, 1)]
set_option maxRecDepth 20000 in
theorem dn_414_0_1_ok : dn_414_0_1.all (fun q => decide (decode (xm_b n_414) q.1 = .ok (q.2.1, q.2.2))) = true := xa_g_ok (by decide +kernel)
def te_414_0 : Nat → eE := (e_T 23 (e_T 10 (e_T 4 (e_T 0 (e_L 0 (0, ei_load 0 2 1, 0, 0)) (e_T 1 (e_L 1 (0, ei_getf eft elay 12 108 4, 0, 0)) (e_L 4 (0, ei_load 1 0 5, 0, 0)))) (e_T 6 (e_T 5 (e_L 5 (0, ei_ald elay false 6, 0, 0)) (e_L 6 (0, ei_if1 1 32 9, 0, 0))) (e_T 9 (e_L 9 (0, ei_load 0 2 10, 0, 0)) (e_L 10 (0, ei_load 1 0 11, 0, 0))))) (e_T 15 (e_T 11 (e_L 11 (2, e_nof, 412, 2)) (e_T 14 (e_L 14 (0, ei_load 0 2 15, 0, 0)) (e_L 15 (0, ei_getf eft elay 12 108 18, 0, 0)))) (e_T 19 (e_T 18 (e_L 18 (0, ei_load 1 0 19, 0, 0)) (e_L 19 (0, ei_load 0 2 20, 0, 0))) (e_T 20 (e_L 20 (2, e_nof, 413, 1)) (e_L 23 (0, ei_if1 0 30 26, 0, 0)))))) (e_T 36 (e_T 30 (e_T 26 (e_L 26 (0, ei_push (0, 1) 27, 0, 0)) (e_T 27 (e_L 27 (0, ei_goto 31, 0, 0)) (e_L 30 (0, ei_push (0, 2) 31, 0, 0)))) (e_T 32 (e_T 31 (e_L 31 (0, ei_ast elay false 32, 0, 0)) (e_L 32 (0, ei_load 0 2 33, 0, 0))) (e_T 33 (e_L 33 (0, ei_getf eft elay 12 108 36, 0, 0)) (e_L 36 (0, ei_load 1 0 37, 0, 0))))) (e_T 39 (e_T 37 (e_L 37 (0, ei_ald elay false 38, 0, 0)) (e_T 38 (e_L 38 (0, ei_push (0, 1) 39, 0, 0)) (e_L 39 (0, ei_if2 1 46 42, 0, 0)))) (e_T 43 (e_T 42 (e_L 42 (0, ei_push (0, 1) 43, 0, 0)) (e_L 43 (0, ei_goto 47, 0, 0))) (e_T 46 (e_L 46 (0, ei_push (0, 0) 47, 0, 0)) (e_L 47 (1, e_nof, 4, 0)))))))
set_option maxRecDepth 20000 in
set_option maxHeartbeats 4000000 in
theorem te_414_0_ok : ∀ pc, e_EOq eft cls elay eI n_414 pc (te_414_0 pc) :=
  (e_Tok2
  (e_Tok2
  (e_Tok2
  (e_Tok2
  (e_Lok (ld_aload_n_0 (x_dk dn_414_0_0_ok 0 rfl)))
  (e_Tok2
  (e_Lok (lk_12_240g ho_414 (x_dk dn_414_0_0_ok 1 rfl)))
  (e_Lok (ld_iload_n_1 (x_dk dn_414_0_0_ok 2 rfl)))))
  (e_Tok2
  (e_Tok2
  (e_Lok (sm_iaload (x_dk dn_414_0_0_ok 3 rfl)))
  (e_Lok (e_st (I := eI) (er_ifne (off := 26) (tg := 32) (x_dk dn_414_0_0_ok 4 rfl) (by decide)) nx_if1)))
  (e_Tok2
  (e_Lok (ld_aload_n_0 (x_dk dn_414_0_0_ok 5 rfl)))
  (e_Lok (ld_iload_n_1 (x_dk dn_414_0_0_ok 6 rfl))))))
  (e_Tok2
  (e_Tok2
  (e_Lok (lk_12_831 ho_414 (x_dk dn_414_0_0_ok 7 rfl)))
  (e_Tok2
  (e_Lok (ld_aload_n_0 (x_dk dn_414_0_0_ok 8 rfl)))
  (e_Lok (lk_12_240g ho_414 (x_dk dn_414_0_0_ok 9 rfl)))))
  (e_Tok2
  (e_Tok2
  (e_Lok (ld_iload_n_1 (x_dk dn_414_0_0_ok 10 rfl)))
  (e_Lok (ld_aload_n_0 (x_dk dn_414_0_0_ok 11 rfl))))
  (e_Tok2
  (e_Lok (lk_12_834 ho_414 (x_dk dn_414_0_0_ok 12 rfl)))
  (e_Lok (e_st (I := eI) (er_ifeq (off := 7) (tg := 30) (x_dk dn_414_0_0_ok 13 rfl) (by decide)) nx_if1))))))
  (e_Tok2
  (e_Tok2
  (e_Tok2
  (e_Lok (ps_iconst_1 (x_dk dn_414_0_0_ok 14 rfl)))
  (e_Tok2
  (e_Lok (e_st (I := eI) (er_goto (off := 4) (tg := 31) (x_dk dn_414_0_0_ok 15 rfl) (by decide)) nx_goto))
  (e_Lok (ps_iconst_2 (x_dk dn_414_0_0_ok 16 rfl)))))
  (e_Tok2
  (e_Tok2
  (e_Lok (sm_iastore (x_dk dn_414_0_0_ok 17 rfl)))
  (e_Lok (ld_aload_n_0 (x_dk dn_414_0_0_ok 18 rfl))))
  (e_Tok2
  (e_Lok (lk_12_240g ho_414 (x_dk dn_414_0_0_ok 19 rfl)))
  (e_Lok (ld_iload_n_1 (x_dk dn_414_0_0_ok 20 rfl))))))
  (e_Tok2
  (e_Tok2
  (e_Lok (sm_iaload (x_dk dn_414_0_0_ok 21 rfl)))
  (e_Tok2
  (e_Lok (ps_iconst_1 (x_dk dn_414_0_0_ok 22 rfl)))
  (e_Lok (e_st (I := eI) (er_icmpne (off := 7) (tg := 46) (x_dk dn_414_0_0_ok 23 rfl) (by decide)) nx_if2))))
  (e_Tok2
  (e_Tok2
  (e_Lok (ps_iconst_1 (x_dk dn_414_0_0_ok 24 rfl)))
  (e_Lok (e_st (I := eI) (er_goto (off := 4) (tg := 47) (x_dk dn_414_0_1_ok 0 rfl) (by decide)) nx_goto)))
  (e_Tok2
  (e_Lok (ps_iconst_0 (x_dk dn_414_0_1_ok 1 rfl)))
  (e_Lok (e_rt (I := eI) (k := 4) ⟨(x_dk dn_414_0_1_ok 2 rfl), rfl⟩)))))))
def te_414 : Nat → eE := te_414_0
theorem te_414_ok : ∀ pc, e_EOq eft cls elay eI n_414 pc (te_414 pc) := te_414_0_ok
theorem ho_415 : (xm_y n_415).cls = "RobotCellHouseModel" := rfl
def dn_415_0_0 : List (Nat × Instr × Nat) := [(0, .bipush 6, 2), (2, .iload_n 1, 1), (3, .imul, 1), (4, .iload_n 2, 1), (5, .iadd, 1), (6, .istore_n 3, 1), (7, .aload_n 0, 1), (8, .getfield 243, 3), (11, .iload_n 3, 1), (12, .iaload, 1), (13, .ifCond .ne 97, 3), (16, .aload_n 0, 1), (17, .iload_n 1, 1), (18, .invokevirtual 837, 3), (21, .ifCond .eq 21, 3), (24, .aload_n 0, 1), (25, .iload_n 1, 1), (26, .aload_n 0, 1), (27, .iload_n 2, 1), (28, .invokevirtual 840, 3), (31, .iadd, 1), (32, .invokevirtual 837, 3), (35, .ifCond .eq 7, 3), (38, .iconst 1, 1), (39, .goto 4, 3)]
set_option maxRecDepth 20000 in
theorem dn_415_0_0_ok : dn_415_0_0.all (fun q => decide (decode (xm_b n_415) q.1 = .ok (q.2.1, q.2.2))) = true := xa_g_ok (by decide +kernel)
def dn_415_0_1 : List (Nat × Instr × Nat) := [(42, .iconst 0, 1), (43, .istore 4, 2), (45, .iload 4, 2), (47, .ifCond .eq 47, 3), (50, .aload_n 0, 1), (51, .iload_n 1, 1), (52, .invokevirtual 831, 3), (55, .iconst 1, 1), (56, .istore 5, 2), (58, .iload 5, 2), (60, .aload_n 0, 1), (61, .getfield 822, 3), (64, .if_icmp .ge 30, 3), (67, .iload 4, 2), (69, .ifCond .eq 25, 3), (72, .aload_n 0, 1), (73, .getfield 155, 3), (76, .iload_n 2, 1), (77, .dup2, 1), (78, .iaload, 1), (79, .iconst 1, 1), (80, .iadd, 1), (81, .iastore, 1), (82, .aload_n 0, 1), (83, .invokevirtual 834, 3)]
set_option maxRecDepth 20000 in
theorem dn_415_0_1_ok : dn_415_0_1.all (fun q => decide (decode (xm_b n_415) q.1 = .ok (q.2.1, q.2.2))) = true := xa_g_ok (by decide +kernel)
def dn_415_0_2 : List (Nat × Instr × Nat) := [(86, .istore 4, 2), (88, .iinc 5 1, 3), (91, .goto (-33), 3), (94, .aload_n 0, 1), (95, .getfield 243, 3), (98, .iload_n 3, 1), (99, .iload 4, 2), (101, .ifCond .eq 7, 3), (104, .iconst 1, 1), (105, .goto 4, 3), (108, .iconst 2, 1), (109, .iastore, 1), (110, .aload_n 0, 1), (111, .getfield 243, 3), (114, .iload_n 3, 1), (115, .iaload, 1), (116, .iconst 1, 1), (117, .if_icmp .ne 7, 3), (120, .iconst 1, 1), (121, .goto 4, 3), (124, .iconst 0, 1), (125, .ireturn, 1)]
set_option maxRecDepth 20000 in
theorem dn_415_0_2_ok : dn_415_0_2.all (fun q => decide (decode (xm_b n_415) q.1 = .ok (q.2.1, q.2.2))) = true := xa_g_ok (by decide +kernel)
def te_415_0 : Nat → eE := (e_T 26 (e_T 11 (e_T 4 (e_T 2 (e_T 0 (e_L 0 (0, ei_push (0, 6) 2, 0, 0)) (e_L 2 (0, ei_load 1 0 3, 0, 0))) (e_T 3 (e_L 3 (0, ei_bin eF_mul 4, 0, 0)) (e_L 4 (0, ei_load 2 0 5, 0, 0)))) (e_T 6 (e_T 5 (e_L 5 (0, ei_bin eF_add 6, 0, 0)) (e_L 6 (0, ei_stor 3 0 7, 0, 0))) (e_T 7 (e_L 7 (0, ei_load 0 2 8, 0, 0)) (e_T 8 (e_L 8 (0, ei_getf eft elay 12 109 11, 0, 0)) (e_L 11 (0, ei_load 3 0 12, 0, 0)))))) (e_T 17 (e_T 13 (e_T 12 (e_L 12 (0, ei_ald elay false 13, 0, 0)) (e_L 13 (0, ei_if1 1 110 16, 0, 0))) (e_T 16 (e_L 16 (0, ei_load 0 2 17, 0, 0)) (e_L 17 (0, ei_load 1 0 18, 0, 0)))) (e_T 21 (e_T 18 (e_L 18 (2, e_nof, 414, 2)) (e_L 21 (0, ei_if1 0 42 24, 0, 0))) (e_T 24 (e_L 24 (0, ei_load 0 2 25, 0, 0)) (e_T 25 (e_L 25 (0, ei_load 1 0 26, 0, 0)) (e_L 26 (0, ei_load 0 2 27, 0, 0))))))) (e_T 43 (e_T 32 (e_T 28 (e_T 27 (e_L 27 (0, ei_load 2 0 28, 0, 0)) (e_L 28 (2, e_nof, 411, 2))) (e_T 31 (e_L 31 (0, ei_bin eF_add 32, 0, 0)) (e_L 32 (2, e_nof, 414, 2)))) (e_T 38 (e_T 35 (e_L 35 (0, ei_if1 0 42 38, 0, 0)) (e_L 38 (0, ei_push (0, 1) 39, 0, 0))) (e_T 39 (e_L 39 (0, ei_goto 43, 0, 0)) (e_T 42 (e_L 42 (0, ei_push (0, 0) 43, 0, 0)) (e_L 43 (0, ei_stor 4 0 45, 0, 0)))))) (e_T 51 (e_T 47 (e_T 45 (e_L 45 (0, ei_load 4 0 47, 0, 0)) (e_L 47 (0, ei_if1 0 94 50, 0, 0))) (e_T 50 (e_L 50 (0, ei_load 0 2 51, 0, 0)) (e_L 51 (0, ei_load 1 0 52, 0, 0)))) (e_T 55 (e_T 52 (e_L 52 (2, e_nof, 412, 2)) (e_L 55 (0, ei_push (0, 1) 56, 0, 0))) (e_T 56 (e_L 56 (0, ei_stor 5 0 58, 0, 0)) (e_T 58 (e_L 58 (0, ei_load 5 0 60, 0, 0)) (e_L 60 (0, ei_load 0 2 61, 0, 0))))))))
set_option maxRecDepth 20000 in
set_option maxHeartbeats 4000000 in
theorem te_415_0_ok : ∀ pc, e_EOq eft cls elay eI n_415 pc (te_415_0 pc) :=
  (e_Tok2
  (e_Tok2
  (e_Tok2
  (e_Tok2
  (e_Tok2
  (e_Lok (ps_bipush_6 (x_dk dn_415_0_0_ok 0 rfl)))
  (e_Lok (ld_iload_n_1 (x_dk dn_415_0_0_ok 1 rfl))))
  (e_Tok2
  (e_Lok (sm_imul (x_dk dn_415_0_0_ok 2 rfl)))
  (e_Lok (ld_iload_n_2 (x_dk dn_415_0_0_ok 3 rfl)))))
  (e_Tok2
  (e_Tok2
  (e_Lok (sm_iadd (x_dk dn_415_0_0_ok 4 rfl)))
  (e_Lok (e_st (I := eI) (er_istore_n (i := 3) (x_dk dn_415_0_0_ok 5 rfl) (by decide +kernel)) nx_stor)))
  (e_Tok2
  (e_Lok (ld_aload_n_0 (x_dk dn_415_0_0_ok 6 rfl)))
  (e_Tok2
  (e_Lok (lk_12_243g ho_415 (x_dk dn_415_0_0_ok 7 rfl)))
  (e_Lok (ld_iload_n_3 (x_dk dn_415_0_0_ok 8 rfl)))))))
  (e_Tok2
  (e_Tok2
  (e_Tok2
  (e_Lok (sm_iaload (x_dk dn_415_0_0_ok 9 rfl)))
  (e_Lok (e_st (I := eI) (er_ifne (off := 97) (tg := 110) (x_dk dn_415_0_0_ok 10 rfl) (by decide)) nx_if1)))
  (e_Tok2
  (e_Lok (ld_aload_n_0 (x_dk dn_415_0_0_ok 11 rfl)))
  (e_Lok (ld_iload_n_1 (x_dk dn_415_0_0_ok 12 rfl)))))
  (e_Tok2
  (e_Tok2
  (e_Lok (lk_12_837 ho_415 (x_dk dn_415_0_0_ok 13 rfl)))
  (e_Lok (e_st (I := eI) (er_ifeq (off := 21) (tg := 42) (x_dk dn_415_0_0_ok 14 rfl) (by decide)) nx_if1)))
  (e_Tok2
  (e_Lok (ld_aload_n_0 (x_dk dn_415_0_0_ok 15 rfl)))
  (e_Tok2
  (e_Lok (ld_iload_n_1 (x_dk dn_415_0_0_ok 16 rfl)))
  (e_Lok (ld_aload_n_0 (x_dk dn_415_0_0_ok 17 rfl))))))))
  (e_Tok2
  (e_Tok2
  (e_Tok2
  (e_Tok2
  (e_Lok (ld_iload_n_2 (x_dk dn_415_0_0_ok 18 rfl)))
  (e_Lok (lk_12_840 ho_415 (x_dk dn_415_0_0_ok 19 rfl))))
  (e_Tok2
  (e_Lok (sm_iadd (x_dk dn_415_0_0_ok 20 rfl)))
  (e_Lok (lk_12_837 ho_415 (x_dk dn_415_0_0_ok 21 rfl)))))
  (e_Tok2
  (e_Tok2
  (e_Lok (e_st (I := eI) (er_ifeq (off := 7) (tg := 42) (x_dk dn_415_0_0_ok 22 rfl) (by decide)) nx_if1))
  (e_Lok (ps_iconst_1 (x_dk dn_415_0_0_ok 23 rfl))))
  (e_Tok2
  (e_Lok (e_st (I := eI) (er_goto (off := 4) (tg := 43) (x_dk dn_415_0_0_ok 24 rfl) (by decide)) nx_goto))
  (e_Tok2
  (e_Lok (ps_iconst_0 (x_dk dn_415_0_1_ok 0 rfl)))
  (e_Lok (e_st (I := eI) (er_istore (i := 4) (x_dk dn_415_0_1_ok 1 rfl) (by decide +kernel)) nx_stor))))))
  (e_Tok2
  (e_Tok2
  (e_Tok2
  (e_Lok (ld_iload_4 (x_dk dn_415_0_1_ok 2 rfl)))
  (e_Lok (e_st (I := eI) (er_ifeq (off := 47) (tg := 94) (x_dk dn_415_0_1_ok 3 rfl) (by decide)) nx_if1)))
  (e_Tok2
  (e_Lok (ld_aload_n_0 (x_dk dn_415_0_1_ok 4 rfl)))
  (e_Lok (ld_iload_n_1 (x_dk dn_415_0_1_ok 5 rfl)))))
  (e_Tok2
  (e_Tok2
  (e_Lok (lk_12_831 ho_415 (x_dk dn_415_0_1_ok 6 rfl)))
  (e_Lok (ps_iconst_1 (x_dk dn_415_0_1_ok 7 rfl))))
  (e_Tok2
  (e_Lok (e_st (I := eI) (er_istore (i := 5) (x_dk dn_415_0_1_ok 8 rfl) (by decide +kernel)) nx_stor))
  (e_Tok2
  (e_Lok (ld_iload_5 (x_dk dn_415_0_1_ok 9 rfl)))
  (e_Lok (ld_aload_n_0 (x_dk dn_415_0_1_ok 10 rfl)))))))))
def te_415_36 : Nat → eE := (e_T 94 (e_T 78 (e_T 69 (e_T 64 (e_T 61 (e_L 61 (0, ei_getf eft elay 12 111 64, 0, 0)) (e_L 64 (0, ei_if2 3 94 67, 0, 0))) (e_T 67 (e_L 67 (0, ei_load 4 0 69, 0, 0)) (e_L 69 (0, ei_if1 0 94 72, 0, 0)))) (e_T 73 (e_T 72 (e_L 72 (0, ei_load 0 2 73, 0, 0)) (e_L 73 (0, ei_getf eft elay 12 57 76, 0, 0))) (e_T 76 (e_L 76 (0, ei_load 2 0 77, 0, 0)) (e_T 77 (e_L 77 (0, ei_stk ef_dup2 78, 0, 0)) (e_L 78 (0, ei_ald elay false 79, 0, 0)))))) (e_T 82 (e_T 80 (e_T 79 (e_L 79 (0, ei_push (0, 1) 80, 0, 0)) (e_L 80 (0, ei_bin eF_add 81, 0, 0))) (e_T 81 (e_L 81 (0, ei_ast elay false 82, 0, 0)) (e_L 82 (0, ei_load 0 2 83, 0, 0)))) (e_T 86 (e_T 83 (e_L 83 (2, e_nof, 413, 1)) (e_L 86 (0, ei_stor 4 0 88, 0, 0))) (e_T 88 (e_L 88 (0, ei_inc 5 1 91, 0, 0)) (e_T 91 (e_L 91 (0, ei_goto 58, 0, 0)) (e_L 94 (0, ei_load 0 2 95, 0, 0))))))) (e_T 110 (e_T 101 (e_T 98 (e_T 95 (e_L 95 (0, ei_getf eft elay 12 109 98, 0, 0)) (e_L 98 (0, ei_load 3 0 99, 0, 0))) (e_T 99 (e_L 99 (0, ei_load 4 0 101, 0, 0)) (e_L 101 (0, ei_if1 0 108 104, 0, 0)))) (e_T 105 (e_T 104 (e_L 104 (0, ei_push (0, 1) 105, 0, 0)) (e_L 105 (0, ei_goto 109, 0, 0))) (e_T 108 (e_L 108 (0, ei_push (0, 2) 109, 0, 0)) (e_T 109 (e_L 109 (0, ei_ast elay false 110, 0, 0)) (e_L 110 (0, ei_load 0 2 111, 0, 0)))))) (e_T 116 (e_T 114 (e_T 111 (e_L 111 (0, ei_getf eft elay 12 109 114, 0, 0)) (e_L 114 (0, ei_load 3 0 115, 0, 0))) (e_T 115 (e_L 115 (0, ei_ald elay false 116, 0, 0)) (e_L 116 (0, ei_push (0, 1) 117, 0, 0)))) (e_T 120 (e_T 117 (e_L 117 (0, ei_if2 1 124 120, 0, 0)) (e_L 120 (0, ei_push (0, 1) 121, 0, 0))) (e_T 121 (e_L 121 (0, ei_goto 125, 0, 0)) (e_T 124 (e_L 124 (0, ei_push (0, 0) 125, 0, 0)) (e_L 125 (1, e_nof, 4, 0))))))))
set_option maxRecDepth 20000 in
set_option maxHeartbeats 4000000 in
theorem te_415_36_ok : ∀ pc, e_EOq eft cls elay eI n_415 pc (te_415_36 pc) :=
  (e_Tok2
  (e_Tok2
  (e_Tok2
  (e_Tok2
  (e_Tok2
  (e_Lok (lk_12_822g ho_415 (x_dk dn_415_0_1_ok 11 rfl)))
  (e_Lok (e_st (I := eI) (er_icmpge (off := 30) (tg := 94) (x_dk dn_415_0_1_ok 12 rfl) (by decide)) nx_if2)))
  (e_Tok2
  (e_Lok (ld_iload_4 (x_dk dn_415_0_1_ok 13 rfl)))
  (e_Lok (e_st (I := eI) (er_ifeq (off := 25) (tg := 94) (x_dk dn_415_0_1_ok 14 rfl) (by decide)) nx_if1))))
  (e_Tok2
  (e_Tok2
  (e_Lok (ld_aload_n_0 (x_dk dn_415_0_1_ok 15 rfl)))
  (e_Lok (lk_12_155g ho_415 (x_dk dn_415_0_1_ok 16 rfl))))
  (e_Tok2
  (e_Lok (ld_iload_n_2 (x_dk dn_415_0_1_ok 17 rfl)))
  (e_Tok2
  (e_Lok (e_st (I := eI) (er_dup2 (x_dk dn_415_0_1_ok 18 rfl)) (nx_stk bf_dup2)))
  (e_Lok (sm_iaload (x_dk dn_415_0_1_ok 19 rfl)))))))
  (e_Tok2
  (e_Tok2
  (e_Tok2
  (e_Lok (ps_iconst_1 (x_dk dn_415_0_1_ok 20 rfl)))
  (e_Lok (sm_iadd (x_dk dn_415_0_1_ok 21 rfl))))
  (e_Tok2
  (e_Lok (sm_iastore (x_dk dn_415_0_1_ok 22 rfl)))
  (e_Lok (ld_aload_n_0 (x_dk dn_415_0_1_ok 23 rfl)))))
  (e_Tok2
  (e_Tok2
  (e_Lok (lk_12_834 ho_415 (x_dk dn_415_0_1_ok 24 rfl)))
  (e_Lok (e_st (I := eI) (er_istore (i := 4) (x_dk dn_415_0_2_ok 0 rfl) (by decide +kernel)) nx_stor)))
  (e_Tok2
  (e_Lok (e_st (I := eI) (er_iinc (i := 5) (n := 1) (x_dk dn_415_0_2_ok 1 rfl) (by decide +kernel) (by decide)) nx_inc))
  (e_Tok2
  (e_Lok (e_st (I := eI) (er_goto (off := (-33)) (tg := 58) (x_dk dn_415_0_2_ok 2 rfl) (by decide)) nx_goto))
  (e_Lok (ld_aload_n_0 (x_dk dn_415_0_2_ok 3 rfl))))))))
  (e_Tok2
  (e_Tok2
  (e_Tok2
  (e_Tok2
  (e_Lok (lk_12_243g ho_415 (x_dk dn_415_0_2_ok 4 rfl)))
  (e_Lok (ld_iload_n_3 (x_dk dn_415_0_2_ok 5 rfl))))
  (e_Tok2
  (e_Lok (ld_iload_4 (x_dk dn_415_0_2_ok 6 rfl)))
  (e_Lok (e_st (I := eI) (er_ifeq (off := 7) (tg := 108) (x_dk dn_415_0_2_ok 7 rfl) (by decide)) nx_if1))))
  (e_Tok2
  (e_Tok2
  (e_Lok (ps_iconst_1 (x_dk dn_415_0_2_ok 8 rfl)))
  (e_Lok (e_st (I := eI) (er_goto (off := 4) (tg := 109) (x_dk dn_415_0_2_ok 9 rfl) (by decide)) nx_goto)))
  (e_Tok2
  (e_Lok (ps_iconst_2 (x_dk dn_415_0_2_ok 10 rfl)))
  (e_Tok2
  (e_Lok (sm_iastore (x_dk dn_415_0_2_ok 11 rfl)))
  (e_Lok (ld_aload_n_0 (x_dk dn_415_0_2_ok 12 rfl)))))))
  (e_Tok2
  (e_Tok2
  (e_Tok2
  (e_Lok (lk_12_243g ho_415 (x_dk dn_415_0_2_ok 13 rfl)))
  (e_Lok (ld_iload_n_3 (x_dk dn_415_0_2_ok 14 rfl))))
  (e_Tok2
  (e_Lok (sm_iaload (x_dk dn_415_0_2_ok 15 rfl)))
  (e_Lok (ps_iconst_1 (x_dk dn_415_0_2_ok 16 rfl)))))
  (e_Tok2
  (e_Tok2
  (e_Lok (e_st (I := eI) (er_icmpne (off := 7) (tg := 124) (x_dk dn_415_0_2_ok 17 rfl) (by decide)) nx_if2))
  (e_Lok (ps_iconst_1 (x_dk dn_415_0_2_ok 18 rfl))))
  (e_Tok2
  (e_Lok (e_st (I := eI) (er_goto (off := 4) (tg := 125) (x_dk dn_415_0_2_ok 19 rfl) (by decide)) nx_goto))
  (e_Tok2
  (e_Lok (ps_iconst_0 (x_dk dn_415_0_2_ok 20 rfl)))
  (e_Lok (e_rt (I := eI) (k := 4) ⟨(x_dk dn_415_0_2_ok 21 rfl), rfl⟩))))))))
def te_415 : Nat → eE := (e_T 60 te_415_0 te_415_36)
theorem te_415_ok : ∀ pc, e_EOq eft cls elay eI n_415 pc (te_415 pc) := (e_Tok2 (te_415_0_ok) (te_415_36_ok))
theorem ho_416 : (xm_y n_416).cls = "RobotCellHouseModel" := rfl
def dn_416_0_0 : List (Nat × Instr × Nat) := [(0, .iload_n 2, 1), (1, .iconst 2, 1), (2, .idiv, 1), (3, .istore_n 3, 1), (4, .aload_n 0, 1), (5, .iload_n 1, 1), (6, .iload_n 3, 1), (7, .invokevirtual 825, 3), (10, .istore 4, 2), (12, .iload_n 2, 1), (13, .iconst 2, 1), (14, .irem, 1), (15, .ifCond .ne 37, 3), (18, .iload 4, 2), (20, .iconst 1, 1), (21, .iadd, 1), (22, .aload_n 0, 1), (23, .getfield 228, 3), (26, .iload_n 3, 1), (27, .iaload, 1), (28, .if_icmp .ge 22, 3), (31, .aload_n 0, 1), (32, .iload_n 1, 1), (33, .iload_n 3, 1), (34, .invokevirtual 843, 3)]
set_option maxRecDepth 20000 in
theorem dn_416_0_0_ok : dn_416_0_0.all (fun q => decide (decode (xm_b n_416) q.1 = .ok (q.2.1, q.2.2))) = true := xa_g_ok (by decide +kernel)
def dn_416_0_1 : List (Nat × Instr × Nat) := [(37, .ifCond .eq 13, 3), (40, .iload_n 1, 1), (41, .aload_n 0, 1), (42, .iload_n 3, 1), (43, .invokevirtual 840, 3), (46, .iadd, 1), (47, .goto 4, 3), (50, .iconst (-1), 1), (51, .ireturn, 1), (52, .iload 4, 2), (54, .ifCond .le 28, 3), (57, .aload_n 0, 1), (58, .iload_n 1, 1), (59, .aload_n 0, 1), (60, .iload_n 3, 1), (61, .invokevirtual 840, 3), (64, .isub, 1), (65, .iload_n 3, 1), (66, .invokevirtual 843, 3), (69, .ifCond .eq 13, 3), (72, .iload_n 1, 1), (73, .aload_n 0, 1), (74, .iload_n 3, 1), (75, .invokevirtual 840, 3), (78, .isub, 1)]
set_option maxRecDepth 20000 in
theorem dn_416_0_1_ok : dn_416_0_1.all (fun q => decide (decode (xm_b n_416) q.1 = .ok (q.2.1, q.2.2))) = true := xa_g_ok (by decide +kernel)
def dn_416_0_2 : List (Nat × Instr × Nat) := [(79, .goto 4, 3), (82, .iconst (-1), 1), (83, .ireturn, 1)]
set_option maxRecDepth 20000 in
theorem dn_416_0_2_ok : dn_416_0_2.all (fun q => decide (decode (xm_b n_416) q.1 = .ok (q.2.1, q.2.2))) = true := xa_g_ok (by decide +kernel)
def te_416_0 : Nat → eE := (e_T 15 (e_T 5 (e_T 2 (e_T 0 (e_L 0 (0, ei_load 2 0 1, 0, 0)) (e_T 1 (e_L 1 (0, ei_push (0, 2) 2, 0, 0)) (e_L 2 (0, ei_bin eF_div 3, 0, 0)))) (e_T 3 (e_L 3 (0, ei_stor 3 0 4, 0, 0)) (e_T 4 (e_L 4 (0, ei_load 0 2 5, 0, 0)) (e_L 5 (0, ei_load 1 0 6, 0, 0))))) (e_T 10 (e_T 6 (e_L 6 (0, ei_load 3 0 7, 0, 0)) (e_T 7 (e_L 7 (2, e_nof, 410, 3)) (e_L 10 (0, ei_stor 4 0 12, 0, 0)))) (e_T 13 (e_T 12 (e_L 12 (0, ei_load 2 0 13, 0, 0)) (e_L 13 (0, ei_push (0, 2) 14, 0, 0))) (e_T 14 (e_L 14 (0, ei_bin eF_rem 15, 0, 0)) (e_L 15 (0, ei_if1 1 52 18, 0, 0)))))) (e_T 26 (e_T 21 (e_T 18 (e_L 18 (0, ei_load 4 0 20, 0, 0)) (e_T 20 (e_L 20 (0, ei_push (0, 1) 21, 0, 0)) (e_L 21 (0, ei_bin eF_add 22, 0, 0)))) (e_T 22 (e_L 22 (0, ei_load 0 2 23, 0, 0)) (e_T 23 (e_L 23 (0, ei_getf eft elay 12 104 26, 0, 0)) (e_L 26 (0, ei_load 3 0 27, 0, 0))))) (e_T 31 (e_T 27 (e_L 27 (0, ei_ald elay false 28, 0, 0)) (e_T 28 (e_L 28 (0, ei_if2 3 50 31, 0, 0)) (e_L 31 (0, ei_load 0 2 32, 0, 0)))) (e_T 33 (e_T 32 (e_L 32 (0, ei_load 1 0 33, 0, 0)) (e_L 33 (0, ei_load 3 0 34, 0, 0))) (e_T 34 (e_L 34 (2, e_nof, 415, 3)) (e_L 37 (0, ei_if1 0 50 40, 0, 0)))))))
set_option maxRecDepth 20000 in
set_option maxHeartbeats 4000000 in
theorem te_416_0_ok : ∀ pc, e_EOq eft cls elay eI n_416 pc (te_416_0 pc) :=
  (e_Tok2
  (e_Tok2
  (e_Tok2
  (e_Tok2
  (e_Lok (ld_iload_n_2 (x_dk dn_416_0_0_ok 0 rfl)))
  (e_Tok2
  (e_Lok (ps_iconst_2 (x_dk dn_416_0_0_ok 1 rfl)))
  (e_Lok (e_st (I := eI) (er_idiv (x_dk dn_416_0_0_ok 2 rfl)) nx_bin))))
  (e_Tok2
  (e_Lok (e_st (I := eI) (er_istore_n (i := 3) (x_dk dn_416_0_0_ok 3 rfl) (by decide +kernel)) nx_stor))
  (e_Tok2
  (e_Lok (ld_aload_n_0 (x_dk dn_416_0_0_ok 4 rfl)))
  (e_Lok (ld_iload_n_1 (x_dk dn_416_0_0_ok 5 rfl))))))
  (e_Tok2
  (e_Tok2
  (e_Lok (ld_iload_n_3 (x_dk dn_416_0_0_ok 6 rfl)))
  (e_Tok2
  (e_Lok (lk_12_825 ho_416 (x_dk dn_416_0_0_ok 7 rfl)))
  (e_Lok (e_st (I := eI) (er_istore (i := 4) (x_dk dn_416_0_0_ok 8 rfl) (by decide +kernel)) nx_stor))))
  (e_Tok2
  (e_Tok2
  (e_Lok (ld_iload_n_2 (x_dk dn_416_0_0_ok 9 rfl)))
  (e_Lok (ps_iconst_2 (x_dk dn_416_0_0_ok 10 rfl))))
  (e_Tok2
  (e_Lok (e_st (I := eI) (er_irem (x_dk dn_416_0_0_ok 11 rfl)) nx_bin))
  (e_Lok (e_st (I := eI) (er_ifne (off := 37) (tg := 52) (x_dk dn_416_0_0_ok 12 rfl) (by decide)) nx_if1))))))
  (e_Tok2
  (e_Tok2
  (e_Tok2
  (e_Lok (ld_iload_4 (x_dk dn_416_0_0_ok 13 rfl)))
  (e_Tok2
  (e_Lok (ps_iconst_1 (x_dk dn_416_0_0_ok 14 rfl)))
  (e_Lok (sm_iadd (x_dk dn_416_0_0_ok 15 rfl)))))
  (e_Tok2
  (e_Lok (ld_aload_n_0 (x_dk dn_416_0_0_ok 16 rfl)))
  (e_Tok2
  (e_Lok (lk_12_228g ho_416 (x_dk dn_416_0_0_ok 17 rfl)))
  (e_Lok (ld_iload_n_3 (x_dk dn_416_0_0_ok 18 rfl))))))
  (e_Tok2
  (e_Tok2
  (e_Lok (sm_iaload (x_dk dn_416_0_0_ok 19 rfl)))
  (e_Tok2
  (e_Lok (e_st (I := eI) (er_icmpge (off := 22) (tg := 50) (x_dk dn_416_0_0_ok 20 rfl) (by decide)) nx_if2))
  (e_Lok (ld_aload_n_0 (x_dk dn_416_0_0_ok 21 rfl)))))
  (e_Tok2
  (e_Tok2
  (e_Lok (ld_iload_n_1 (x_dk dn_416_0_0_ok 22 rfl)))
  (e_Lok (ld_iload_n_3 (x_dk dn_416_0_0_ok 23 rfl))))
  (e_Tok2
  (e_Lok (lk_12_843 ho_416 (x_dk dn_416_0_0_ok 24 rfl)))
  (e_Lok (e_st (I := eI) (er_ifeq (off := 13) (tg := 50) (x_dk dn_416_0_1_ok 0 rfl) (by decide)) nx_if1)))))))
def te_416_26 : Nat → eE := (e_T 59 (e_T 47 (e_T 42 (e_T 40 (e_L 40 (0, ei_load 1 0 41, 0, 0)) (e_T 41 (e_L 41 (0, ei_load 0 2 42, 0, 0)) (e_L 42 (0, ei_load 3 0 43, 0, 0)))) (e_T 43 (e_L 43 (2, e_nof, 411, 2)) (e_T 46 (e_L 46 (0, ei_bin eF_add 47, 0, 0)) (e_L 47 (0, ei_goto 51, 0, 0))))) (e_T 52 (e_T 50 (e_L 50 (0, ei_push (0, (-1)) 51, 0, 0)) (e_T 51 (e_L 51 (1, e_nof, 1, 0)) (e_L 52 (0, ei_load 4 0 54, 0, 0)))) (e_T 57 (e_T 54 (e_L 54 (0, ei_if1 5 82 57, 0, 0)) (e_L 57 (0, ei_load 0 2 58, 0, 0))) (e_T 58 (e_L 58 (0, ei_load 1 0 59, 0, 0)) (e_L 59 (0, ei_load 0 2 60, 0, 0)))))) (e_T 72 (e_T 64 (e_T 60 (e_L 60 (0, ei_load 3 0 61, 0, 0)) (e_T 61 (e_L 61 (2, e_nof, 411, 2)) (e_L 64 (0, ei_bin eF_sub 65, 0, 0)))) (e_T 66 (e_T 65 (e_L 65 (0, ei_load 3 0 66, 0, 0)) (e_L 66 (2, e_nof, 415, 3))) (e_T 69 (e_L 69 (0, ei_if1 0 82 72, 0, 0)) (e_L 72 (0, ei_load 1 0 73, 0, 0))))) (e_T 75 (e_T 73 (e_L 73 (0, ei_load 0 2 74, 0, 0)) (e_T 74 (e_L 74 (0, ei_load 3 0 75, 0, 0)) (e_L 75 (2, e_nof, 411, 2)))) (e_T 79 (e_T 78 (e_L 78 (0, ei_bin eF_sub 79, 0, 0)) (e_L 79 (0, ei_goto 83, 0, 0))) (e_T 82 (e_L 82 (0, ei_push (0, (-1)) 83, 0, 0)) (e_L 83 (1, e_nof, 1, 0)))))))
set_option maxRecDepth 20000 in
set_option maxHeartbeats 4000000 in
theorem te_416_26_ok : ∀ pc, e_EOq eft cls elay eI n_416 pc (te_416_26 pc) :=
  (e_Tok2
  (e_Tok2
  (e_Tok2
  (e_Tok2
  (e_Lok (ld_iload_n_1 (x_dk dn_416_0_1_ok 1 rfl)))
  (e_Tok2
  (e_Lok (ld_aload_n_0 (x_dk dn_416_0_1_ok 2 rfl)))
  (e_Lok (ld_iload_n_3 (x_dk dn_416_0_1_ok 3 rfl)))))
  (e_Tok2
  (e_Lok (lk_12_840 ho_416 (x_dk dn_416_0_1_ok 4 rfl)))
  (e_Tok2
  (e_Lok (sm_iadd (x_dk dn_416_0_1_ok 5 rfl)))
  (e_Lok (e_st (I := eI) (er_goto (off := 4) (tg := 51) (x_dk dn_416_0_1_ok 6 rfl) (by decide)) nx_goto)))))
  (e_Tok2
  (e_Tok2
  (e_Lok (ps_iconst_m1 (x_dk dn_416_0_1_ok 7 rfl)))
  (e_Tok2
  (e_Lok (e_rt (I := eI) (k := 1) ⟨(x_dk dn_416_0_1_ok 8 rfl), rfl⟩))
  (e_Lok (ld_iload_4 (x_dk dn_416_0_1_ok 9 rfl)))))
  (e_Tok2
  (e_Tok2
  (e_Lok (e_st (I := eI) (er_ifle (off := 28) (tg := 82) (x_dk dn_416_0_1_ok 10 rfl) (by decide)) nx_if1))
  (e_Lok (ld_aload_n_0 (x_dk dn_416_0_1_ok 11 rfl))))
  (e_Tok2
  (e_Lok (ld_iload_n_1 (x_dk dn_416_0_1_ok 12 rfl)))
  (e_Lok (ld_aload_n_0 (x_dk dn_416_0_1_ok 13 rfl)))))))
  (e_Tok2
  (e_Tok2
  (e_Tok2
  (e_Lok (ld_iload_n_3 (x_dk dn_416_0_1_ok 14 rfl)))
  (e_Tok2
  (e_Lok (lk_12_840 ho_416 (x_dk dn_416_0_1_ok 15 rfl)))
  (e_Lok (sm_isub (x_dk dn_416_0_1_ok 16 rfl)))))
  (e_Tok2
  (e_Tok2
  (e_Lok (ld_iload_n_3 (x_dk dn_416_0_1_ok 17 rfl)))
  (e_Lok (lk_12_843 ho_416 (x_dk dn_416_0_1_ok 18 rfl))))
  (e_Tok2
  (e_Lok (e_st (I := eI) (er_ifeq (off := 13) (tg := 82) (x_dk dn_416_0_1_ok 19 rfl) (by decide)) nx_if1))
  (e_Lok (ld_iload_n_1 (x_dk dn_416_0_1_ok 20 rfl))))))
  (e_Tok2
  (e_Tok2
  (e_Lok (ld_aload_n_0 (x_dk dn_416_0_1_ok 21 rfl)))
  (e_Tok2
  (e_Lok (ld_iload_n_3 (x_dk dn_416_0_1_ok 22 rfl)))
  (e_Lok (lk_12_840 ho_416 (x_dk dn_416_0_1_ok 23 rfl)))))
  (e_Tok2
  (e_Tok2
  (e_Lok (sm_isub (x_dk dn_416_0_1_ok 24 rfl)))
  (e_Lok (e_st (I := eI) (er_goto (off := 4) (tg := 83) (x_dk dn_416_0_2_ok 0 rfl) (by decide)) nx_goto)))
  (e_Tok2
  (e_Lok (ps_iconst_m1 (x_dk dn_416_0_2_ok 1 rfl)))
  (e_Lok (e_rt (I := eI) (k := 1) ⟨(x_dk dn_416_0_2_ok 2 rfl), rfl⟩)))))))
def te_416 : Nat → eE := (e_T 37 te_416_0 te_416_26)
theorem te_416_ok : ∀ pc, e_EOq eft cls elay eI n_416 pc (te_416 pc) := (e_Tok2 (te_416_0_ok) (te_416_26_ok))
theorem ho_417 : (xm_y n_417).cls = "RobotCellHouseModel" := rfl
def dn_417_0_0 : List (Nat × Instr × Nat) := [(0, .iconst 0, 1), (1, .istore 4, 2), (3, .iload 4, 2), (5, .iload_n 3, 1), (6, .if_icmp .ge 55, 3), (9, .aload_n 0, 1), (10, .getfield 234, 3), (13, .iload 4, 2), (15, .iconst (-1), 1), (16, .iastore, 1), (17, .aload_n 0, 1), (18, .getfield 240, 3), (21, .iload 4, 2), (23, .iconst 0, 1), (24, .iastore, 1), (25, .iconst 0, 1), (26, .istore 5, 2), (28, .iload 5, 2), (30, .bipush 6, 2), (32, .if_icmp .ge 23, 3), (35, .aload_n 0, 1), (36, .getfield 243, 3), (39, .bipush 6, 2), (41, .iload 4, 2), (43, .imul, 1)]
set_option maxRecDepth 20000 in
theorem dn_417_0_0_ok : dn_417_0_0.all (fun q => decide (decode (xm_b n_417) q.1 = .ok (q.2.1, q.2.2))) = true := xa_g_ok (by decide +kernel)
def dn_417_0_1 : List (Nat × Instr × Nat) := [(44, .iload 5, 2), (46, .iadd, 1), (47, .iconst 0, 1), (48, .iastore, 1), (49, .iinc 5 1, 3), (52, .goto (-24), 3), (55, .iinc 4 1, 3), (58, .goto (-55), 3), (61, .aload_n 0, 1), (62, .iload_n 1, 1), (63, .invokevirtual 837, 3), (66, .ifCond .eq 11, 3), (69, .aload_n 0, 1), (70, .iload_n 2, 1), (71, .invokevirtual 837, 3), (74, .ifCond .ne 5, 3), (77, .iconst (-1), 1), (78, .ireturn, 1), (79, .iconst 2, 1), (80, .aload_n 0, 1), (81, .getfield 43, 3), (84, .aload_n 0, 1), (85, .getfield 819, 3), (88, .iaload, 1), (89, .imul, 1)]
set_option maxRecDepth 20000 in
theorem dn_417_0_1_ok : dn_417_0_1.all (fun q => decide (decode (xm_b n_417) q.1 = .ok (q.2.1, q.2.2))) = true := xa_g_ok (by decide +kernel)
def dn_417_0_2 : List (Nat × Instr × Nat) := [(90, .istore 4, 2), (92, .aload_n 0, 1), (93, .getfield 234, 3), (96, .iload_n 2, 1), (97, .iconst 0, 1), (98, .iastore, 1), (99, .aload_n 0, 1), (100, .getfield 237, 3), (103, .iconst 0, 1), (104, .iload_n 2, 1), (105, .iastore, 1), (106, .iconst 1, 1), (107, .istore 5, 2), (109, .iconst 0, 1), (110, .istore 6, 2), (112, .iload 6, 2), (114, .iload 5, 2), (116, .if_icmp .ge 97, 3), (119, .aload_n 0, 1), (120, .getfield 234, 3), (123, .iload_n 1, 1), (124, .iaload, 1), (125, .ifCond .ge 88, 3), (128, .iconst 0, 1), (129, .istore 7, 2)]
set_option maxRecDepth 20000 in
theorem dn_417_0_2_ok : dn_417_0_2.all (fun q => decide (decode (xm_b n_417) q.1 = .ok (q.2.1, q.2.2))) = true := xa_g_ok (by decide +kernel)
def dn_417_0_3 : List (Nat × Instr × Nat) := [(131, .iload 7, 2), (133, .iload 4, 2), (135, .if_icmp .ge 72, 3), (138, .aload_n 0, 1), (139, .aload_n 0, 1), (140, .getfield 237, 3), (143, .iload 6, 2), (145, .iaload, 1), (146, .iload 7, 2), (148, .invokevirtual 846, 3), (151, .istore 8, 2), (153, .iload 8, 2), (155, .ifCond .lt 46, 3), (158, .aload_n 0, 1), (159, .getfield 234, 3), (162, .iload 8, 2), (164, .iaload, 1), (165, .ifCond .ge 36, 3), (168, .aload_n 0, 1), (169, .getfield 234, 3), (172, .iload 8, 2), (174, .aload_n 0, 1), (175, .getfield 234, 3), (178, .aload_n 0, 1), (179, .getfield 237, 3)]
set_option maxRecDepth 20000 in
theorem dn_417_0_3_ok : dn_417_0_3.all (fun q => decide (decode (xm_b n_417) q.1 = .ok (q.2.1, q.2.2))) = true := xa_g_ok (by decide +kernel)
def dn_417_1_0 : List (Nat × Instr × Nat) := [(182, .iload 6, 2), (184, .iaload, 1), (185, .iaload, 1), (186, .iconst 1, 1), (187, .iadd, 1), (188, .iastore, 1), (189, .aload_n 0, 1), (190, .getfield 237, 3), (193, .iload 5, 2), (195, .iload 8, 2), (197, .iastore, 1), (198, .iinc 5 1, 3), (201, .iinc 7 1, 3), (204, .goto (-73), 3), (207, .iinc 6 1, 3), (210, .goto (-98), 3), (213, .aload_n 0, 1), (214, .getfield 234, 3), (217, .iload_n 1, 1), (218, .iaload, 1), (219, .istore 6, 2), (221, .iload_n 1, 1), (222, .istore 7, 2), (224, .iconst 0, 1), (225, .istore 8, 2)]
set_option maxRecDepth 20000 in
theorem dn_417_1_0_ok : dn_417_1_0.all (fun q => decide (decode (xm_b n_417) q.1 = .ok (q.2.1, q.2.2))) = true := xa_g_ok (by decide +kernel)
def dn_417_1_1 : List (Nat × Instr × Nat) := [(227, .iload 8, 2), (229, .iload 6, 2), (231, .if_icmp .ge 74, 3), (234, .iconst 0, 1), (235, .istore 9, 2), (237, .aload_n 0, 1), (238, .iload 7, 2), (240, .iconst 0, 1), (241, .invokevirtual 846, 3), (244, .istore 10, 2), (246, .iload 10, 2), (248, .ifCond .lt 22, 3), (251, .aload_n 0, 1), (252, .getfield 234, 3), (255, .iload 10, 2), (257, .iaload, 1), (258, .aload_n 0, 1), (259, .getfield 234, 3), (262, .iload 7, 2), (264, .iaload, 1), (265, .iconst 1, 1), (266, .isub, 1), (267, .if_icmp .eq 19, 3), (270, .iinc 9 1, 3), (273, .aload_n 0, 1)]
set_option maxRecDepth 20000 in
theorem dn_417_1_1_ok : dn_417_1_1.all (fun q => decide (decode (xm_b n_417) q.1 = .ok (q.2.1, q.2.2))) = true := xa_g_ok (by decide +kernel)
def dn_417_1_2 : List (Nat × Instr × Nat) := [(274, .iload 7, 2), (276, .iload 9, 2), (278, .invokevirtual 846, 3), (281, .istore 10, 2), (283, .goto (-37), 3), (286, .aload_n 0, 1), (287, .getfield 246, 3), (290, .iload 8, 2), (292, .iload 9, 2), (294, .iastore, 1), (295, .iload 10, 2), (297, .istore 7, 2), (299, .iinc 8 1, 3), (302, .goto (-75), 3), (305, .iload 6, 2), (307, .ireturn, 1)]
set_option maxRecDepth 20000 in
theorem dn_417_1_2_ok : dn_417_1_2.all (fun q => decide (decode (xm_b n_417) q.1 = .ok (q.2.1, q.2.2))) = true := xa_g_ok (by decide +kernel)
def te_417_0 : Nat → eE := (e_T 16 (e_T 6 (e_T 1 (e_T 0 (e_L 0 (0, ei_push (0, 0) 1, 0, 0)) (e_L 1 (0, ei_stor 4 0 3, 0, 0))) (e_T 3 (e_L 3 (0, ei_load 4 0 5, 0, 0)) (e_T 5 (e_L 5 (0, ei_load 3 0 6, 0, 0)) (e_L 6 (0, ei_if2 3 61 9, 0, 0))))) (e_T 10 (e_T 9 (e_L 9 (0, ei_load 0 2 10, 0, 0)) (e_L 10 (0, ei_getf eft elay 12 106 13, 0, 0))) (e_T 13 (e_L 13 (0, ei_load 4 0 15, 0, 0)) (e_T 15 (e_L 15 (0, ei_push (0, (-1)) 16, 0, 0)) (e_L 16 (0, ei_ast elay false 17, 0, 0)))))) (e_T 24 (e_T 18 (e_T 17 (e_L 17 (0, ei_load 0 2 18, 0, 0)) (e_L 18 (0, ei_getf eft elay 12 108 21, 0, 0))) (e_T 21 (e_L 21 (0, ei_load 4 0 23, 0, 0)) (e_T 23 (e_L 23 (0, ei_push (0, 0) 24, 0, 0)) (e_L 24 (0, ei_ast elay false 25, 0, 0))))) (e_T 26 (e_T 25 (e_L 25 (0, ei_push (0, 0) 26, 0, 0)) (e_L 26 (0, ei_stor 5 0 28, 0, 0))) (e_T 28 (e_L 28 (0, ei_load 5 0 30, 0, 0)) (e_T 30 (e_L 30 (0, ei_push (0, 6) 32, 0, 0)) (e_L 32 (0, ei_if2 3 55 35, 0, 0)))))))
set_option maxRecDepth 20000 in
set_option maxHeartbeats 4000000 in
theorem te_417_0_ok : ∀ pc, e_EOq eft cls elay eI n_417 pc (te_417_0 pc) :=
  (e_Tok2
  (e_Tok2
  (e_Tok2
  (e_Tok2
  (e_Lok (ps_iconst_0 (x_dk dn_417_0_0_ok 0 rfl)))
  (e_Lok (e_st (I := eI) (er_istore (i := 4) (x_dk dn_417_0_0_ok 1 rfl) (by decide +kernel)) nx_stor)))
  (e_Tok2
  (e_Lok (ld_iload_4 (x_dk dn_417_0_0_ok 2 rfl)))
  (e_Tok2
  (e_Lok (ld_iload_n_3 (x_dk dn_417_0_0_ok 3 rfl)))
  (e_Lok (e_st (I := eI) (er_icmpge (off := 55) (tg := 61) (x_dk dn_417_0_0_ok 4 rfl) (by decide)) nx_if2)))))
  (e_Tok2
  (e_Tok2
  (e_Lok (ld_aload_n_0 (x_dk dn_417_0_0_ok 5 rfl)))
  (e_Lok (lk_12_234g ho_417 (x_dk dn_417_0_0_ok 6 rfl))))
  (e_Tok2
  (e_Lok (ld_iload_4 (x_dk dn_417_0_0_ok 7 rfl)))
  (e_Tok2
  (e_Lok (ps_iconst_m1 (x_dk dn_417_0_0_ok 8 rfl)))
  (e_Lok (sm_iastore (x_dk dn_417_0_0_ok 9 rfl)))))))
  (e_Tok2
  (e_Tok2
  (e_Tok2
  (e_Lok (ld_aload_n_0 (x_dk dn_417_0_0_ok 10 rfl)))
  (e_Lok (lk_12_240g ho_417 (x_dk dn_417_0_0_ok 11 rfl))))
  (e_Tok2
  (e_Lok (ld_iload_4 (x_dk dn_417_0_0_ok 12 rfl)))
  (e_Tok2
  (e_Lok (ps_iconst_0 (x_dk dn_417_0_0_ok 13 rfl)))
  (e_Lok (sm_iastore (x_dk dn_417_0_0_ok 14 rfl))))))
  (e_Tok2
  (e_Tok2
  (e_Lok (ps_iconst_0 (x_dk dn_417_0_0_ok 15 rfl)))
  (e_Lok (e_st (I := eI) (er_istore (i := 5) (x_dk dn_417_0_0_ok 16 rfl) (by decide +kernel)) nx_stor)))
  (e_Tok2
  (e_Lok (ld_iload_5 (x_dk dn_417_0_0_ok 17 rfl)))
  (e_Tok2
  (e_Lok (ps_bipush_6 (x_dk dn_417_0_0_ok 18 rfl)))
  (e_Lok (e_st (I := eI) (er_icmpge (off := 23) (tg := 55) (x_dk dn_417_0_0_ok 19 rfl) (by decide)) nx_if2)))))))
def te_417_20 : Nat → eE := (e_T 49 (e_T 43 (e_T 36 (e_T 35 (e_L 35 (0, ei_load 0 2 36, 0, 0)) (e_L 36 (0, ei_getf eft elay 12 109 39, 0, 0))) (e_T 39 (e_L 39 (0, ei_push (0, 6) 41, 0, 0)) (e_T 41 (e_L 41 (0, ei_load 4 0 43, 0, 0)) (e_L 43 (0, ei_bin eF_mul 44, 0, 0))))) (e_T 46 (e_T 44 (e_L 44 (0, ei_load 5 0 46, 0, 0)) (e_L 46 (0, ei_bin eF_add 47, 0, 0))) (e_T 47 (e_L 47 (0, ei_push (0, 0) 48, 0, 0)) (e_T 48 (e_L 48 (0, ei_ast elay false 49, 0, 0)) (e_L 49 (0, ei_inc 5 1 52, 0, 0)))))) (e_T 62 (e_T 55 (e_T 52 (e_L 52 (0, ei_goto 28, 0, 0)) (e_L 55 (0, ei_inc 4 1 58, 0, 0))) (e_T 58 (e_L 58 (0, ei_goto 3, 0, 0)) (e_T 61 (e_L 61 (0, ei_load 0 2 62, 0, 0)) (e_L 62 (0, ei_load 1 0 63, 0, 0))))) (e_T 69 (e_T 63 (e_L 63 (2, e_nof, 414, 2)) (e_T 66 (e_L 66 (0, ei_if1 0 77 69, 0, 0)) (e_L 69 (0, ei_load 0 2 70, 0, 0)))) (e_T 70 (e_L 70 (0, ei_load 2 0 71, 0, 0)) (e_T 71 (e_L 71 (2, e_nof, 414, 2)) (e_L 74 (0, ei_if1 1 79 77, 0, 0)))))))
set_option maxRecDepth 20000 in
set_option maxHeartbeats 4000000 in
theorem te_417_20_ok : ∀ pc, e_EOq eft cls elay eI n_417 pc (te_417_20 pc) :=
  (e_Tok2
  (e_Tok2
  (e_Tok2
  (e_Tok2
  (e_Lok (ld_aload_n_0 (x_dk dn_417_0_0_ok 20 rfl)))
  (e_Lok (lk_12_243g ho_417 (x_dk dn_417_0_0_ok 21 rfl))))
  (e_Tok2
  (e_Lok (ps_bipush_6 (x_dk dn_417_0_0_ok 22 rfl)))
  (e_Tok2
  (e_Lok (ld_iload_4 (x_dk dn_417_0_0_ok 23 rfl)))
  (e_Lok (sm_imul (x_dk dn_417_0_0_ok 24 rfl))))))
  (e_Tok2
  (e_Tok2
  (e_Lok (ld_iload_5 (x_dk dn_417_0_1_ok 0 rfl)))
  (e_Lok (sm_iadd (x_dk dn_417_0_1_ok 1 rfl))))
  (e_Tok2
  (e_Lok (ps_iconst_0 (x_dk dn_417_0_1_ok 2 rfl)))
  (e_Tok2
  (e_Lok (sm_iastore (x_dk dn_417_0_1_ok 3 rfl)))
  (e_Lok (e_st (I := eI) (er_iinc (i := 5) (n := 1) (x_dk dn_417_0_1_ok 4 rfl) (by decide +kernel) (by decide)) nx_inc))))))
  (e_Tok2
  (e_Tok2
  (e_Tok2
  (e_Lok (e_st (I := eI) (er_goto (off := (-24)) (tg := 28) (x_dk dn_417_0_1_ok 5 rfl) (by decide)) nx_goto))
  (e_Lok (e_st (I := eI) (er_iinc (i := 4) (n := 1) (x_dk dn_417_0_1_ok 6 rfl) (by decide +kernel) (by decide)) nx_inc)))
  (e_Tok2
  (e_Lok (e_st (I := eI) (er_goto (off := (-55)) (tg := 3) (x_dk dn_417_0_1_ok 7 rfl) (by decide)) nx_goto))
  (e_Tok2
  (e_Lok (ld_aload_n_0 (x_dk dn_417_0_1_ok 8 rfl)))
  (e_Lok (ld_iload_n_1 (x_dk dn_417_0_1_ok 9 rfl))))))
  (e_Tok2
  (e_Tok2
  (e_Lok (lk_12_837 ho_417 (x_dk dn_417_0_1_ok 10 rfl)))
  (e_Tok2
  (e_Lok (e_st (I := eI) (er_ifeq (off := 11) (tg := 77) (x_dk dn_417_0_1_ok 11 rfl) (by decide)) nx_if1))
  (e_Lok (ld_aload_n_0 (x_dk dn_417_0_1_ok 12 rfl)))))
  (e_Tok2
  (e_Lok (ld_iload_n_2 (x_dk dn_417_0_1_ok 13 rfl)))
  (e_Tok2
  (e_Lok (lk_12_837 ho_417 (x_dk dn_417_0_1_ok 14 rfl)))
  (e_Lok (e_st (I := eI) (er_ifne (off := 5) (tg := 79) (x_dk dn_417_0_1_ok 15 rfl) (by decide)) nx_if1)))))))
def te_417_41 : Nat → eE := (e_T 90 (e_T 81 (e_T 78 (e_T 77 (e_L 77 (0, ei_push (0, (-1)) 78, 0, 0)) (e_L 78 (1, e_nof, 1, 0))) (e_T 79 (e_L 79 (0, ei_push (0, 2) 80, 0, 0)) (e_T 80 (e_L 80 (0, ei_load 0 2 81, 0, 0)) (e_L 81 (0, ei_getf eft elay 12 15 84, 0, 0))))) (e_T 85 (e_T 84 (e_L 84 (0, ei_load 0 2 85, 0, 0)) (e_L 85 (0, ei_getf eft elay 12 110 88, 0, 0))) (e_T 88 (e_L 88 (0, ei_ald elay false 89, 0, 0)) (e_T 89 (e_L 89 (0, ei_bin eF_mul 90, 0, 0)) (e_L 90 (0, ei_stor 4 0 92, 0, 0)))))) (e_T 98 (e_T 93 (e_T 92 (e_L 92 (0, ei_load 0 2 93, 0, 0)) (e_L 93 (0, ei_getf eft elay 12 106 96, 0, 0))) (e_T 96 (e_L 96 (0, ei_load 2 0 97, 0, 0)) (e_T 97 (e_L 97 (0, ei_push (0, 0) 98, 0, 0)) (e_L 98 (0, ei_ast elay false 99, 0, 0))))) (e_T 103 (e_T 99 (e_L 99 (0, ei_load 0 2 100, 0, 0)) (e_T 100 (e_L 100 (0, ei_getf eft elay 12 107 103, 0, 0)) (e_L 103 (0, ei_push (0, 0) 104, 0, 0)))) (e_T 104 (e_L 104 (0, ei_load 2 0 105, 0, 0)) (e_T 105 (e_L 105 (0, ei_ast elay false 106, 0, 0)) (e_L 106 (0, ei_push (0, 1) 107, 0, 0)))))))
set_option maxRecDepth 20000 in
set_option maxHeartbeats 4000000 in
theorem te_417_41_ok : ∀ pc, e_EOq eft cls elay eI n_417 pc (te_417_41 pc) :=
  (e_Tok2
  (e_Tok2
  (e_Tok2
  (e_Tok2
  (e_Lok (ps_iconst_m1 (x_dk dn_417_0_1_ok 16 rfl)))
  (e_Lok (e_rt (I := eI) (k := 1) ⟨(x_dk dn_417_0_1_ok 17 rfl), rfl⟩)))
  (e_Tok2
  (e_Lok (ps_iconst_2 (x_dk dn_417_0_1_ok 18 rfl)))
  (e_Tok2
  (e_Lok (ld_aload_n_0 (x_dk dn_417_0_1_ok 19 rfl)))
  (e_Lok (lk_12_43g ho_417 (x_dk dn_417_0_1_ok 20 rfl))))))
  (e_Tok2
  (e_Tok2
  (e_Lok (ld_aload_n_0 (x_dk dn_417_0_1_ok 21 rfl)))
  (e_Lok (lk_12_819g ho_417 (x_dk dn_417_0_1_ok 22 rfl))))
  (e_Tok2
  (e_Lok (sm_iaload (x_dk dn_417_0_1_ok 23 rfl)))
  (e_Tok2
  (e_Lok (sm_imul (x_dk dn_417_0_1_ok 24 rfl)))
  (e_Lok (e_st (I := eI) (er_istore (i := 4) (x_dk dn_417_0_2_ok 0 rfl) (by decide +kernel)) nx_stor))))))
  (e_Tok2
  (e_Tok2
  (e_Tok2
  (e_Lok (ld_aload_n_0 (x_dk dn_417_0_2_ok 1 rfl)))
  (e_Lok (lk_12_234g ho_417 (x_dk dn_417_0_2_ok 2 rfl))))
  (e_Tok2
  (e_Lok (ld_iload_n_2 (x_dk dn_417_0_2_ok 3 rfl)))
  (e_Tok2
  (e_Lok (ps_iconst_0 (x_dk dn_417_0_2_ok 4 rfl)))
  (e_Lok (sm_iastore (x_dk dn_417_0_2_ok 5 rfl))))))
  (e_Tok2
  (e_Tok2
  (e_Lok (ld_aload_n_0 (x_dk dn_417_0_2_ok 6 rfl)))
  (e_Tok2
  (e_Lok (lk_12_237g ho_417 (x_dk dn_417_0_2_ok 7 rfl)))
  (e_Lok (ps_iconst_0 (x_dk dn_417_0_2_ok 8 rfl)))))
  (e_Tok2
  (e_Lok (ld_iload_n_2 (x_dk dn_417_0_2_ok 9 rfl)))
  (e_Tok2
  (e_Lok (sm_iastore (x_dk dn_417_0_2_ok 10 rfl)))
  (e_Lok (ps_iconst_1 (x_dk dn_417_0_2_ok 11 rfl))))))))
def te_417_62 : Nat → eE := (e_T 124 (e_T 114 (e_T 109 (e_T 107 (e_L 107 (0, ei_stor 5 0 109, 0, 0)) (e_L 109 (0, ei_push (0, 0) 110, 0, 0))) (e_T 110 (e_L 110 (0, ei_stor 6 0 112, 0, 0)) (e_T 112 (e_L 112 (0, ei_load 6 0 114, 0, 0)) (e_L 114 (0, ei_load 5 0 116, 0, 0))))) (e_T 119 (e_T 116 (e_L 116 (0, ei_if2 3 213 119, 0, 0)) (e_L 119 (0, ei_load 0 2 120, 0, 0))) (e_T 120 (e_L 120 (0, ei_getf eft elay 12 106 123, 0, 0)) (e_T 123 (e_L 123 (0, ei_load 1 0 124, 0, 0)) (e_L 124 (0, ei_ald elay false 125, 0, 0)))))) (e_T 133 (e_T 128 (e_T 125 (e_L 125 (0, ei_if1 3 213 128, 0, 0)) (e_L 128 (0, ei_push (0, 0) 129, 0, 0))) (e_T 129 (e_L 129 (0, ei_stor 7 0 131, 0, 0)) (e_T 131 (e_L 131 (0, ei_load 7 0 133, 0, 0)) (e_L 133 (0, ei_load 4 0 135, 0, 0))))) (e_T 139 (e_T 135 (e_L 135 (0, ei_if2 3 207 138, 0, 0)) (e_T 138 (e_L 138 (0, ei_load 0 2 139, 0, 0)) (e_L 139 (0, ei_load 0 2 140, 0, 0)))) (e_T 140 (e_L 140 (0, ei_getf eft elay 12 107 143, 0, 0)) (e_T 143 (e_L 143 (0, ei_load 6 0 145, 0, 0)) (e_L 145 (0, ei_ald elay false 146, 0, 0)))))))
set_option maxRecDepth 20000 in
set_option maxHeartbeats 4000000 in
theorem te_417_62_ok : ∀ pc, e_EOq eft cls elay eI n_417 pc (te_417_62 pc) :=
  (e_Tok2
  (e_Tok2
  (e_Tok2
  (e_Tok2
  (e_Lok (e_st (I := eI) (er_istore (i := 5) (x_dk dn_417_0_2_ok 12 rfl) (by decide +kernel)) nx_stor))
  (e_Lok (ps_iconst_0 (x_dk dn_417_0_2_ok 13 rfl))))
  (e_Tok2
  (e_Lok (e_st (I := eI) (er_istore (i := 6) (x_dk dn_417_0_2_ok 14 rfl) (by decide +kernel)) nx_stor))
  (e_Tok2
  (e_Lok (ld_iload_6 (x_dk dn_417_0_2_ok 15 rfl)))
  (e_Lok (ld_iload_5 (x_dk dn_417_0_2_ok 16 rfl))))))
  (e_Tok2
  (e_Tok2
  (e_Lok (e_st (I := eI) (er_icmpge (off := 97) (tg := 213) (x_dk dn_417_0_2_ok 17 rfl) (by decide)) nx_if2))
  (e_Lok (ld_aload_n_0 (x_dk dn_417_0_2_ok 18 rfl))))
  (e_Tok2
  (e_Lok (lk_12_234g ho_417 (x_dk dn_417_0_2_ok 19 rfl)))
  (e_Tok2
  (e_Lok (ld_iload_n_1 (x_dk dn_417_0_2_ok 20 rfl)))
  (e_Lok (sm_iaload (x_dk dn_417_0_2_ok 21 rfl)))))))
  (e_Tok2
  (e_Tok2
  (e_Tok2
  (e_Lok (e_st (I := eI) (er_ifge (off := 88) (tg := 213) (x_dk dn_417_0_2_ok 22 rfl) (by decide)) nx_if1))
  (e_Lok (ps_iconst_0 (x_dk dn_417_0_2_ok 23 rfl))))
  (e_Tok2
  (e_Lok (e_st (I := eI) (er_istore (i := 7) (x_dk dn_417_0_2_ok 24 rfl) (by decide +kernel)) nx_stor))
  (e_Tok2
  (e_Lok (ld_iload_7 (x_dk dn_417_0_3_ok 0 rfl)))
  (e_Lok (ld_iload_4 (x_dk dn_417_0_3_ok 1 rfl))))))
  (e_Tok2
  (e_Tok2
  (e_Lok (e_st (I := eI) (er_icmpge (off := 72) (tg := 207) (x_dk dn_417_0_3_ok 2 rfl) (by decide)) nx_if2))
  (e_Tok2
  (e_Lok (ld_aload_n_0 (x_dk dn_417_0_3_ok 3 rfl)))
  (e_Lok (ld_aload_n_0 (x_dk dn_417_0_3_ok 4 rfl)))))
  (e_Tok2
  (e_Lok (lk_12_237g ho_417 (x_dk dn_417_0_3_ok 5 rfl)))
  (e_Tok2
  (e_Lok (ld_iload_6 (x_dk dn_417_0_3_ok 6 rfl)))
  (e_Lok (sm_iaload (x_dk dn_417_0_3_ok 7 rfl))))))))
def te_417_83 : Nat → eE := (e_T 165 (e_T 155 (e_T 148 (e_T 146 (e_L 146 (0, ei_load 7 0 148, 0, 0)) (e_L 148 (2, e_nof, 416, 3))) (e_T 151 (e_L 151 (0, ei_stor 8 0 153, 0, 0)) (e_T 153 (e_L 153 (0, ei_load 8 0 155, 0, 0)) (e_L 155 (0, ei_if1 2 201 158, 0, 0))))) (e_T 159 (e_T 158 (e_L 158 (0, ei_load 0 2 159, 0, 0)) (e_L 159 (0, ei_getf eft elay 12 106 162, 0, 0))) (e_T 162 (e_L 162 (0, ei_load 8 0 164, 0, 0)) (e_T 164 (e_L 164 (0, ei_ald elay false 165, 0, 0)) (e_L 165 (0, ei_if1 3 201 168, 0, 0)))))) (e_T 175 (e_T 169 (e_T 168 (e_L 168 (0, ei_load 0 2 169, 0, 0)) (e_L 169 (0, ei_getf eft elay 12 106 172, 0, 0))) (e_T 172 (e_L 172 (0, ei_load 8 0 174, 0, 0)) (e_T 174 (e_L 174 (0, ei_load 0 2 175, 0, 0)) (e_L 175 (0, ei_getf eft elay 12 106 178, 0, 0))))) (e_T 179 (e_T 178 (e_L 178 (0, ei_load 0 2 179, 0, 0)) (e_L 179 (0, ei_getf eft elay 12 107 182, 0, 0))) (e_T 182 (e_L 182 (0, ei_load 6 0 184, 0, 0)) (e_T 184 (e_L 184 (0, ei_ald elay false 185, 0, 0)) (e_L 185 (0, ei_ald elay false 186, 0, 0)))))))
set_option maxRecDepth 20000 in
set_option maxHeartbeats 4000000 in
theorem te_417_83_ok : ∀ pc, e_EOq eft cls elay eI n_417 pc (te_417_83 pc) :=
  (e_Tok2
  (e_Tok2
  (e_Tok2
  (e_Tok2
  (e_Lok (ld_iload_7 (x_dk dn_417_0_3_ok 8 rfl)))
  (e_Lok (lk_12_846 ho_417 (x_dk dn_417_0_3_ok 9 rfl))))
  (e_Tok2
  (e_Lok (e_st (I := eI) (er_istore (i := 8) (x_dk dn_417_0_3_ok 10 rfl) (by decide +kernel)) nx_stor))
  (e_Tok2
  (e_Lok (ld_iload_8 (x_dk dn_417_0_3_ok 11 rfl)))
  (e_Lok (e_st (I := eI) (er_iflt (off := 46) (tg := 201) (x_dk dn_417_0_3_ok 12 rfl) (by decide)) nx_if1)))))
  (e_Tok2
  (e_Tok2
  (e_Lok (ld_aload_n_0 (x_dk dn_417_0_3_ok 13 rfl)))
  (e_Lok (lk_12_234g ho_417 (x_dk dn_417_0_3_ok 14 rfl))))
  (e_Tok2
  (e_Lok (ld_iload_8 (x_dk dn_417_0_3_ok 15 rfl)))
  (e_Tok2
  (e_Lok (sm_iaload (x_dk dn_417_0_3_ok 16 rfl)))
  (e_Lok (e_st (I := eI) (er_ifge (off := 36) (tg := 201) (x_dk dn_417_0_3_ok 17 rfl) (by decide)) nx_if1))))))
  (e_Tok2
  (e_Tok2
  (e_Tok2
  (e_Lok (ld_aload_n_0 (x_dk dn_417_0_3_ok 18 rfl)))
  (e_Lok (lk_12_234g ho_417 (x_dk dn_417_0_3_ok 19 rfl))))
  (e_Tok2
  (e_Lok (ld_iload_8 (x_dk dn_417_0_3_ok 20 rfl)))
  (e_Tok2
  (e_Lok (ld_aload_n_0 (x_dk dn_417_0_3_ok 21 rfl)))
  (e_Lok (lk_12_234g ho_417 (x_dk dn_417_0_3_ok 22 rfl))))))
  (e_Tok2
  (e_Tok2
  (e_Lok (ld_aload_n_0 (x_dk dn_417_0_3_ok 23 rfl)))
  (e_Lok (lk_12_237g ho_417 (x_dk dn_417_0_3_ok 24 rfl))))
  (e_Tok2
  (e_Lok (ld_iload_6 (x_dk dn_417_1_0_ok 0 rfl)))
  (e_Tok2
  (e_Lok (sm_iaload (x_dk dn_417_1_0_ok 1 rfl)))
  (e_Lok (sm_iaload (x_dk dn_417_1_0_ok 2 rfl))))))))
def te_417_103 : Nat → eE := (e_T 201 (e_T 190 (e_T 187 (e_T 186 (e_L 186 (0, ei_push (0, 1) 187, 0, 0)) (e_L 187 (0, ei_bin eF_add 188, 0, 0))) (e_T 188 (e_L 188 (0, ei_ast elay false 189, 0, 0)) (e_T 189 (e_L 189 (0, ei_load 0 2 190, 0, 0)) (e_L 190 (0, ei_getf eft elay 12 107 193, 0, 0))))) (e_T 195 (e_T 193 (e_L 193 (0, ei_load 5 0 195, 0, 0)) (e_L 195 (0, ei_load 8 0 197, 0, 0))) (e_T 197 (e_L 197 (0, ei_ast elay false 198, 0, 0)) (e_T 198 (e_L 198 (0, ei_inc 5 1 201, 0, 0)) (e_L 201 (0, ei_inc 7 1 204, 0, 0)))))) (e_T 214 (e_T 207 (e_T 204 (e_L 204 (0, ei_goto 131, 0, 0)) (e_L 207 (0, ei_inc 6 1 210, 0, 0))) (e_T 210 (e_L 210 (0, ei_goto 112, 0, 0)) (e_T 213 (e_L 213 (0, ei_load 0 2 214, 0, 0)) (e_L 214 (0, ei_getf eft elay 12 106 217, 0, 0))))) (e_T 219 (e_T 217 (e_L 217 (0, ei_load 1 0 218, 0, 0)) (e_T 218 (e_L 218 (0, ei_ald elay false 219, 0, 0)) (e_L 219 (0, ei_stor 6 0 221, 0, 0)))) (e_T 221 (e_L 221 (0, ei_load 1 0 222, 0, 0)) (e_T 222 (e_L 222 (0, ei_stor 7 0 224, 0, 0)) (e_L 224 (0, ei_push (0, 0) 225, 0, 0)))))))
set_option maxRecDepth 20000 in
set_option maxHeartbeats 4000000 in
theorem te_417_103_ok : ∀ pc, e_EOq eft cls elay eI n_417 pc (te_417_103 pc) :=
  (e_Tok2
  (e_Tok2
  (e_Tok2
  (e_Tok2
  (e_Lok (ps_iconst_1 (x_dk dn_417_1_0_ok 3 rfl)))
  (e_Lok (sm_iadd (x_dk dn_417_1_0_ok 4 rfl))))
  (e_Tok2
  (e_Lok (sm_iastore (x_dk dn_417_1_0_ok 5 rfl)))
  (e_Tok2
  (e_Lok (ld_aload_n_0 (x_dk dn_417_1_0_ok 6 rfl)))
  (e_Lok (lk_12_237g ho_417 (x_dk dn_417_1_0_ok 7 rfl))))))
  (e_Tok2
  (e_Tok2
  (e_Lok (ld_iload_5 (x_dk dn_417_1_0_ok 8 rfl)))
  (e_Lok (ld_iload_8 (x_dk dn_417_1_0_ok 9 rfl))))
  (e_Tok2
  (e_Lok (sm_iastore (x_dk dn_417_1_0_ok 10 rfl)))
  (e_Tok2
  (e_Lok (e_st (I := eI) (er_iinc (i := 5) (n := 1) (x_dk dn_417_1_0_ok 11 rfl) (by decide +kernel) (by decide)) nx_inc))
  (e_Lok (e_st (I := eI) (er_iinc (i := 7) (n := 1) (x_dk dn_417_1_0_ok 12 rfl) (by decide +kernel) (by decide)) nx_inc))))))
  (e_Tok2
  (e_Tok2
  (e_Tok2
  (e_Lok (e_st (I := eI) (er_goto (off := (-73)) (tg := 131) (x_dk dn_417_1_0_ok 13 rfl) (by decide)) nx_goto))
  (e_Lok (e_st (I := eI) (er_iinc (i := 6) (n := 1) (x_dk dn_417_1_0_ok 14 rfl) (by decide +kernel) (by decide)) nx_inc)))
  (e_Tok2
  (e_Lok (e_st (I := eI) (er_goto (off := (-98)) (tg := 112) (x_dk dn_417_1_0_ok 15 rfl) (by decide)) nx_goto))
  (e_Tok2
  (e_Lok (ld_aload_n_0 (x_dk dn_417_1_0_ok 16 rfl)))
  (e_Lok (lk_12_234g ho_417 (x_dk dn_417_1_0_ok 17 rfl))))))
  (e_Tok2
  (e_Tok2
  (e_Lok (ld_iload_n_1 (x_dk dn_417_1_0_ok 18 rfl)))
  (e_Tok2
  (e_Lok (sm_iaload (x_dk dn_417_1_0_ok 19 rfl)))
  (e_Lok (e_st (I := eI) (er_istore (i := 6) (x_dk dn_417_1_0_ok 20 rfl) (by decide +kernel)) nx_stor))))
  (e_Tok2
  (e_Lok (ld_iload_n_1 (x_dk dn_417_1_0_ok 21 rfl)))
  (e_Tok2
  (e_Lok (e_st (I := eI) (er_istore (i := 7) (x_dk dn_417_1_0_ok 22 rfl) (by decide +kernel)) nx_stor))
  (e_Lok (ps_iconst_0 (x_dk dn_417_1_0_ok 23 rfl))))))))
def te_417_124 : Nat → eE := (e_T 241 (e_T 234 (e_T 227 (e_T 225 (e_L 225 (0, ei_stor 8 0 227, 0, 0)) (e_L 227 (0, ei_load 8 0 229, 0, 0))) (e_T 229 (e_L 229 (0, ei_load 6 0 231, 0, 0)) (e_T 231 (e_L 231 (0, ei_if2 3 305 234, 0, 0)) (e_L 234 (0, ei_push (0, 0) 235, 0, 0))))) (e_T 237 (e_T 235 (e_L 235 (0, ei_stor 9 0 237, 0, 0)) (e_L 237 (0, ei_load 0 2 238, 0, 0))) (e_T 238 (e_L 238 (0, ei_load 7 0 240, 0, 0)) (e_T 240 (e_L 240 (0, ei_push (0, 0) 241, 0, 0)) (e_L 241 (2, e_nof, 416, 3)))))) (e_T 252 (e_T 246 (e_T 244 (e_L 244 (0, ei_stor 10 0 246, 0, 0)) (e_L 246 (0, ei_load 10 0 248, 0, 0))) (e_T 248 (e_L 248 (0, ei_if1 2 270 251, 0, 0)) (e_T 251 (e_L 251 (0, ei_load 0 2 252, 0, 0)) (e_L 252 (0, ei_getf eft elay 12 106 255, 0, 0))))) (e_T 258 (e_T 255 (e_L 255 (0, ei_load 10 0 257, 0, 0)) (e_T 257 (e_L 257 (0, ei_ald elay false 258, 0, 0)) (e_L 258 (0, ei_load 0 2 259, 0, 0)))) (e_T 259 (e_L 259 (0, ei_getf eft elay 12 106 262, 0, 0)) (e_T 262 (e_L 262 (0, ei_load 7 0 264, 0, 0)) (e_L 264 (0, ei_ald elay false 265, 0, 0)))))))
set_option maxRecDepth 20000 in
set_option maxHeartbeats 4000000 in
theorem te_417_124_ok : ∀ pc, e_EOq eft cls elay eI n_417 pc (te_417_124 pc) :=
  (e_Tok2
  (e_Tok2
  (e_Tok2
  (e_Tok2
  (e_Lok (e_st (I := eI) (er_istore (i := 8) (x_dk dn_417_1_0_ok 24 rfl) (by decide +kernel)) nx_stor))
  (e_Lok (ld_iload_8 (x_dk dn_417_1_1_ok 0 rfl))))
  (e_Tok2
  (e_Lok (ld_iload_6 (x_dk dn_417_1_1_ok 1 rfl)))
  (e_Tok2
  (e_Lok (e_st (I := eI) (er_icmpge (off := 74) (tg := 305) (x_dk dn_417_1_1_ok 2 rfl) (by decide)) nx_if2))
  (e_Lok (ps_iconst_0 (x_dk dn_417_1_1_ok 3 rfl))))))
  (e_Tok2
  (e_Tok2
  (e_Lok (e_st (I := eI) (er_istore (i := 9) (x_dk dn_417_1_1_ok 4 rfl) (by decide +kernel)) nx_stor))
  (e_Lok (ld_aload_n_0 (x_dk dn_417_1_1_ok 5 rfl))))
  (e_Tok2
  (e_Lok (ld_iload_7 (x_dk dn_417_1_1_ok 6 rfl)))
  (e_Tok2
  (e_Lok (ps_iconst_0 (x_dk dn_417_1_1_ok 7 rfl)))
  (e_Lok (lk_12_846 ho_417 (x_dk dn_417_1_1_ok 8 rfl)))))))
  (e_Tok2
  (e_Tok2
  (e_Tok2
  (e_Lok (e_st (I := eI) (er_istore (i := 10) (x_dk dn_417_1_1_ok 9 rfl) (by decide +kernel)) nx_stor))
  (e_Lok (ld_iload_10 (x_dk dn_417_1_1_ok 10 rfl))))
  (e_Tok2
  (e_Lok (e_st (I := eI) (er_iflt (off := 22) (tg := 270) (x_dk dn_417_1_1_ok 11 rfl) (by decide)) nx_if1))
  (e_Tok2
  (e_Lok (ld_aload_n_0 (x_dk dn_417_1_1_ok 12 rfl)))
  (e_Lok (lk_12_234g ho_417 (x_dk dn_417_1_1_ok 13 rfl))))))
  (e_Tok2
  (e_Tok2
  (e_Lok (ld_iload_10 (x_dk dn_417_1_1_ok 14 rfl)))
  (e_Tok2
  (e_Lok (sm_iaload (x_dk dn_417_1_1_ok 15 rfl)))
  (e_Lok (ld_aload_n_0 (x_dk dn_417_1_1_ok 16 rfl)))))
  (e_Tok2
  (e_Lok (lk_12_234g ho_417 (x_dk dn_417_1_1_ok 17 rfl)))
  (e_Tok2
  (e_Lok (ld_iload_7 (x_dk dn_417_1_1_ok 18 rfl)))
  (e_Lok (sm_iaload (x_dk dn_417_1_1_ok 19 rfl))))))))
def te_417_145 : Nat → eE := (e_T 283 (e_T 273 (e_T 266 (e_T 265 (e_L 265 (0, ei_push (0, 1) 266, 0, 0)) (e_L 266 (0, ei_bin eF_sub 267, 0, 0))) (e_T 267 (e_L 267 (0, ei_if2 0 286 270, 0, 0)) (e_T 270 (e_L 270 (0, ei_inc 9 1 273, 0, 0)) (e_L 273 (0, ei_load 0 2 274, 0, 0))))) (e_T 276 (e_T 274 (e_L 274 (0, ei_load 7 0 276, 0, 0)) (e_L 276 (0, ei_load 9 0 278, 0, 0))) (e_T 278 (e_L 278 (2, e_nof, 416, 3)) (e_T 281 (e_L 281 (0, ei_stor 10 0 283, 0, 0)) (e_L 283 (0, ei_goto 246, 0, 0)))))) (e_T 294 (e_T 287 (e_T 286 (e_L 286 (0, ei_load 0 2 287, 0, 0)) (e_L 287 (0, ei_getf eft elay 12 113 290, 0, 0))) (e_T 290 (e_L 290 (0, ei_load 8 0 292, 0, 0)) (e_T 292 (e_L 292 (0, ei_load 9 0 294, 0, 0)) (e_L 294 (0, ei_ast elay false 295, 0, 0))))) (e_T 299 (e_T 295 (e_L 295 (0, ei_load 10 0 297, 0, 0)) (e_T 297 (e_L 297 (0, ei_stor 7 0 299, 0, 0)) (e_L 299 (0, ei_inc 8 1 302, 0, 0)))) (e_T 302 (e_L 302 (0, ei_goto 227, 0, 0)) (e_T 305 (e_L 305 (0, ei_load 6 0 307, 0, 0)) (e_L 307 (1, e_nof, 1, 0)))))))
set_option maxRecDepth 20000 in
set_option maxHeartbeats 4000000 in
theorem te_417_145_ok : ∀ pc, e_EOq eft cls elay eI n_417 pc (te_417_145 pc) :=
  (e_Tok2
  (e_Tok2
  (e_Tok2
  (e_Tok2
  (e_Lok (ps_iconst_1 (x_dk dn_417_1_1_ok 20 rfl)))
  (e_Lok (sm_isub (x_dk dn_417_1_1_ok 21 rfl))))
  (e_Tok2
  (e_Lok (e_st (I := eI) (er_icmpeq (off := 19) (tg := 286) (x_dk dn_417_1_1_ok 22 rfl) (by decide)) nx_if2))
  (e_Tok2
  (e_Lok (e_st (I := eI) (er_iinc (i := 9) (n := 1) (x_dk dn_417_1_1_ok 23 rfl) (by decide +kernel) (by decide)) nx_inc))
  (e_Lok (ld_aload_n_0 (x_dk dn_417_1_1_ok 24 rfl))))))
  (e_Tok2
  (e_Tok2
  (e_Lok (ld_iload_7 (x_dk dn_417_1_2_ok 0 rfl)))
  (e_Lok (ld_iload_9 (x_dk dn_417_1_2_ok 1 rfl))))
  (e_Tok2
  (e_Lok (lk_12_846 ho_417 (x_dk dn_417_1_2_ok 2 rfl)))
  (e_Tok2
  (e_Lok (e_st (I := eI) (er_istore (i := 10) (x_dk dn_417_1_2_ok 3 rfl) (by decide +kernel)) nx_stor))
  (e_Lok (e_st (I := eI) (er_goto (off := (-37)) (tg := 246) (x_dk dn_417_1_2_ok 4 rfl) (by decide)) nx_goto))))))
  (e_Tok2
  (e_Tok2
  (e_Tok2
  (e_Lok (ld_aload_n_0 (x_dk dn_417_1_2_ok 5 rfl)))
  (e_Lok (lk_12_246g ho_417 (x_dk dn_417_1_2_ok 6 rfl))))
  (e_Tok2
  (e_Lok (ld_iload_8 (x_dk dn_417_1_2_ok 7 rfl)))
  (e_Tok2
  (e_Lok (ld_iload_9 (x_dk dn_417_1_2_ok 8 rfl)))
  (e_Lok (sm_iastore (x_dk dn_417_1_2_ok 9 rfl))))))
  (e_Tok2
  (e_Tok2
  (e_Lok (ld_iload_10 (x_dk dn_417_1_2_ok 10 rfl)))
  (e_Tok2
  (e_Lok (e_st (I := eI) (er_istore (i := 7) (x_dk dn_417_1_2_ok 11 rfl) (by decide +kernel)) nx_stor))
  (e_Lok (e_st (I := eI) (er_iinc (i := 8) (n := 1) (x_dk dn_417_1_2_ok 12 rfl) (by decide +kernel) (by decide)) nx_inc))))
  (e_Tok2
  (e_Lok (e_st (I := eI) (er_goto (off := (-75)) (tg := 227) (x_dk dn_417_1_2_ok 13 rfl) (by decide)) nx_goto))
  (e_Tok2
  (e_Lok (ld_iload_6 (x_dk dn_417_1_2_ok 14 rfl)))
  (e_Lok (e_rt (I := eI) (k := 1) ⟨(x_dk dn_417_1_2_ok 15 rfl), rfl⟩)))))))
def te_417 : Nat → eE := (e_T 145 (e_T 74 (e_T 32 te_417_0 te_417_20) (e_T 106 te_417_41 te_417_62)) (e_T 224 (e_T 185 te_417_83 te_417_103) (e_T 264 te_417_124 te_417_145)))
theorem te_417_ok : ∀ pc, e_EOq eft cls elay eI n_417 pc (te_417 pc) := (e_Tok2 ((e_Tok2 ((e_Tok2 (te_417_0_ok) (te_417_20_ok))) ((e_Tok2 (te_417_41_ok) (te_417_62_ok))))) ((e_Tok2 ((e_Tok2 (te_417_83_ok) (te_417_103_ok))) ((e_Tok2 (te_417_124_ok) (te_417_145_ok))))))
theorem ho_418 : (xm_y n_418).cls = "RobotCellHouseModel" := rfl
def dn_418_0_0 : List (Nat × Instr × Nat) := [(0, .aload_n 0, 1), (1, .iload_n 1, 1), (2, .invokevirtual 305, 3), (5, .ifCond .eq 27, 3), (8, .iload_n 2, 1), (9, .i2l, 1), (10, .lconst 1, 1), (11, .ldc2_w 849, 3), (14, .invokestatic 301, 3), (17, .ifCond .eq 15, 3), (20, .iload_n 3, 1), (21, .i2l, 1), (22, .lconst 0, 1), (23, .ldc2_w 336, 3), (26, .invokestatic 301, 3), (29, .ifCond .ne 5, 3), (32, .iconst (-1), 1), (33, .ireturn, 1), (34, .aload_n 0, 1), (35, .getfield 265, 3), (38, .ifCond .eq 17, 3), (41, .aload_n 0, 1), (42, .getfield 8, 3), (45, .iload_n 1, 1), (46, .invokestatic 294, 3)]
set_option maxRecDepth 20000 in
theorem dn_418_0_0_ok : dn_418_0_0.all (fun q => decide (decode (xm_b n_418) q.1 = .ok (q.2.1, q.2.2))) = true := xa_g_ok (by decide +kernel)
def dn_418_0_1 : List (Nat × Instr × Nat) := [(49, .iconst 0, 1), (50, .iadd, 1), (51, .iaload, 1), (52, .ifCond .eq 6, 3), (55, .bipush (-2), 2), (57, .ireturn, 1), (58, .aload_n 0, 1), (59, .iload_n 1, 1), (60, .iload_n 2, 1), (61, .invokevirtual 851, 3), (64, .istore 4, 2), (66, .iload 4, 2), (68, .sipush 1000, 3), (71, .if_icmp .gt 19, 3), (74, .aload_n 0, 1), (75, .getfield 291, 3), (78, .bipush 60, 2), (80, .if_icmp .ne 13, 3), (83, .aload_n 0, 1), (84, .getfield 771, 3), (87, .ifCond .ne 6, 3), (90, .bipush (-3), 2), (92, .ireturn, 1), (93, .aload_n 0, 1), (94, .dup, 1)]
set_option maxRecDepth 20000 in
theorem dn_418_0_1_ok : dn_418_0_1.all (fun q => decide (decode (xm_b n_418) q.1 = .ok (q.2.1, q.2.2))) = true := xa_g_ok (by decide +kernel)
def dn_418_0_2 : List (Nat × Instr × Nat) := [(95, .getfield 291, 3), (98, .aload_n 0, 1), (99, .getfield 771, 3), (102, .ifCond .eq 7, 3), (105, .iconst 0, 1), (106, .goto 4, 3), (109, .iconst 1, 1), (110, .iadd, 1), (111, .putfield 291, 3), (114, .iconst 0, 1), (115, .istore 5, 2), (117, .iconst 0, 1), (118, .istore 6, 2), (120, .iconst 0, 1), (121, .istore 7, 2), (123, .iload 7, 2), (125, .aload_n 0, 1), (126, .getfield 43, 3), (129, .iload_n 1, 1), (130, .iaload, 1), (131, .if_icmp .ge 135, 3), (134, .aload_n 0, 1), (135, .getfield 8, 3), (138, .bipush 8, 2), (140, .iload 7, 2)]
set_option maxRecDepth 20000 in
theorem dn_418_0_2_ok : dn_418_0_2.all (fun q => decide (decode (xm_b n_418) q.1 = .ok (q.2.1, q.2.2))) = true := xa_g_ok (by decide +kernel)
def dn_418_0_3 : List (Nat × Instr × Nat) := [(142, .iadd, 1), (143, .iaload, 1), (144, .istore 8, 2), (146, .iload 8, 2), (148, .i2l, 1), (149, .aload_n 0, 1), (150, .getfield 49, 3), (153, .bipush 6, 2), (155, .iload_n 1, 1), (156, .imul, 1), (157, .iload 7, 2), (159, .iadd, 1), (160, .iaload, 1), (161, .i2l, 1), (162, .aload_n 0, 1), (163, .getfield 52, 3), (166, .bipush 6, 2), (168, .iload_n 1, 1), (169, .imul, 1), (170, .iload 7, 2), (172, .iadd, 1), (173, .iaload, 1), (174, .i2l, 1), (175, .invokestatic 301, 3), (178, .ifCond .eq 18, 3)]
set_option maxRecDepth 20000 in
theorem dn_418_0_3_ok : dn_418_0_3.all (fun q => decide (decode (xm_b n_418) q.1 = .ok (q.2.1, q.2.2))) = true := xa_g_ok (by decide +kernel)
def dn_418_1_0 : List (Nat × Instr × Nat) := [(181, .iload 8, 2), (183, .aload_n 0, 1), (184, .getfield 231, 3), (187, .iload 7, 2), (189, .iaload, 1), (190, .isub, 1), (191, .iload_n 2, 1), (192, .irem, 1), (193, .ifCond .eq 6, 3), (196, .bipush (-2), 2), (198, .ireturn, 1), (199, .iload 5, 2), (201, .aload_n 0, 1), (202, .iload 7, 2), (204, .invokevirtual 840, 3), (207, .aload_n 0, 1), (208, .getfield 8, 3), (211, .iload_n 1, 1), (212, .invokestatic 294, 3), (215, .bipush 16, 2), (217, .iadd, 1), (218, .iload 7, 2), (220, .iadd, 1), (221, .iaload, 1), (222, .aload_n 0, 1)]
set_option maxRecDepth 20000 in
theorem dn_418_1_0_ok : dn_418_1_0.all (fun q => decide (decode (xm_b n_418) q.1 = .ok (q.2.1, q.2.2))) = true := xa_g_ok (by decide +kernel)
def dn_418_1_1 : List (Nat × Instr × Nat) := [(223, .getfield 231, 3), (226, .iload 7, 2), (228, .iaload, 1), (229, .isub, 1), (230, .iload_n 2, 1), (231, .idiv, 1), (232, .imul, 1), (233, .iadd, 1), (234, .istore 5, 2), (236, .iload 6, 2), (238, .aload_n 0, 1), (239, .iload 7, 2), (241, .invokevirtual 840, 3), (244, .iload 8, 2), (246, .aload_n 0, 1), (247, .getfield 231, 3), (250, .iload 7, 2), (252, .iaload, 1), (253, .isub, 1), (254, .iload_n 2, 1), (255, .idiv, 1), (256, .imul, 1), (257, .iadd, 1), (258, .istore 6, 2), (260, .iinc 7 1, 3)]
set_option maxRecDepth 20000 in
theorem dn_418_1_1_ok : dn_418_1_1.all (fun q => decide (decode (xm_b n_418) q.1 = .ok (q.2.1, q.2.2))) = true := xa_g_ok (by decide +kernel)
def dn_418_1_2 : List (Nat × Instr × Nat) := [(263, .goto (-140), 3), (266, .aload_n 0, 1), (267, .iload_n 1, 1), (268, .putfield 819, 3), (271, .aload_n 0, 1), (272, .iload_n 2, 1), (273, .putfield 822, 3), (276, .aload_n 0, 1), (277, .iload_n 3, 1), (278, .putfield 828, 3), (281, .aload_n 0, 1), (282, .invokevirtual 401, 3), (285, .aload_n 0, 1), (286, .getfield 771, 3), (289, .ifCond .eq 26, 3), (292, .aload_n 0, 1), (293, .getfield 253, 3), (296, .aload_n 0, 1), (297, .getfield 854, 3), (300, .iaload, 1), (301, .ifCond .lt 14, 3), (304, .aload_n 0, 1), (305, .aload_n 0, 1), (306, .getfield 854, 3), (309, .invokevirtual 857, 3)]
set_option maxRecDepth 20000 in
theorem dn_418_1_2_ok : dn_418_1_2.all (fun q => decide (decode (xm_b n_418) q.1 = .ok (q.2.1, q.2.2))) = true := xa_g_ok (by decide +kernel)
def dn_418_1_3 : List (Nat × Instr × Nat) := [(312, .goto 13, 3), (315, .aload_n 0, 1), (316, .iload 5, 2), (318, .iload 6, 2), (320, .iload 4, 2), (322, .invokevirtual 860, 3), (325, .istore 7, 2), (327, .iload 7, 2), (329, .ifCond .ge 6, 3), (332, .bipush (-2), 2), (334, .ireturn, 1), (335, .aload_n 0, 1), (336, .invokevirtual 863, 3), (339, .ifCond .eq 6, 3), (342, .bipush (-3), 2), (344, .ireturn, 1), (345, .iload_n 1, 1), (346, .invokestatic 294, 3), (349, .istore 8, 2), (351, .aload_n 0, 1), (352, .getfield 8, 3), (355, .iload 8, 2), (357, .iconst 3, 1), (358, .iadd, 1), (359, .iload 7, 2)]
set_option maxRecDepth 20000 in
theorem dn_418_1_3_ok : dn_418_1_3.all (fun q => decide (decode (xm_b n_418) q.1 = .ok (q.2.1, q.2.2))) = true := xa_g_ok (by decide +kernel)
def dn_418_2_0 : List (Nat × Instr × Nat) := [(361, .iastore, 1), (362, .aload_n 0, 1), (363, .getfield 8, 3), (366, .iload 8, 2), (368, .bipush 10, 2), (370, .iadd, 1), (371, .iload_n 2, 1), (372, .iastore, 1), (373, .aload_n 0, 1), (374, .getfield 8, 3), (377, .iload 8, 2), (379, .iconst 4, 1), (380, .iadd, 1), (381, .iconst 1, 1), (382, .iastore, 1), (383, .aload_n 0, 1), (384, .getfield 8, 3), (387, .iload 8, 2), (389, .iconst 5, 1), (390, .iadd, 1), (391, .iconst 1, 1), (392, .iastore, 1), (393, .iconst 0, 1), (394, .istore 9, 2), (396, .iload 9, 2)]
set_option maxRecDepth 20000 in
theorem dn_418_2_0_ok : dn_418_2_0.all (fun q => decide (decode (xm_b n_418) q.1 = .ok (q.2.1, q.2.2))) = true := xa_g_ok (by decide +kernel)
def dn_418_2_1 : List (Nat × Instr × Nat) := [(398, .sipush 1000, 3), (401, .if_icmp .ge 44, 3), (404, .aload_n 0, 1), (405, .getfield 8, 3), (408, .sipush 21060, 3), (411, .sipush 1000, 3), (414, .iload_n 1, 1), (415, .imul, 1), (416, .iadd, 1), (417, .iload 9, 2), (419, .iadd, 1), (420, .iload 9, 2), (422, .iload 7, 2), (424, .if_icmp .ge 13, 3), (427, .aload_n 0, 1), (428, .getfield 246, 3), (431, .iload 9, 2), (433, .iaload, 1), (434, .goto 4, 3), (437, .iconst 0, 1), (438, .iastore, 1), (439, .iinc 9 1, 3), (442, .goto (-46), 3), (445, .aload_n 0, 1), (446, .bipush 10, 2)]
set_option maxRecDepth 20000 in
theorem dn_418_2_1_ok : dn_418_2_1.all (fun q => decide (decode (xm_b n_418) q.1 = .ok (q.2.1, q.2.2))) = true := xa_g_ok (by decide +kernel)
def dn_418_2_2 : List (Nat × Instr × Nat) := [(448, .iload_n 1, 1), (449, .iload_n 2, 1), (450, .iload_n 3, 1), (451, .invokevirtual 866, 3), (454, .iload 7, 2), (456, .ireturn, 1)]
set_option maxRecDepth 20000 in
theorem dn_418_2_2_ok : dn_418_2_2.all (fun q => decide (decode (xm_b n_418) q.1 = .ok (q.2.1, q.2.2))) = true := xa_g_ok (by decide +kernel)
def te_418_0 : Nat → eE := (e_T 29 (e_T 11 (e_T 5 (e_T 1 (e_T 0 (e_L 0 (0, ei_load 0 2 1, 0, 0)) (e_L 1 (0, ei_load 1 0 2, 0, 0))) (e_T 2 (e_L 2 (2, e_nof, 270, 2)) (e_L 5 (0, ei_if1 0 32 8, 0, 0)))) (e_T 9 (e_T 8 (e_L 8 (0, ei_load 2 0 9, 0, 0)) (e_L 9 (0, ei_un (fun x => (4, x)) 10, 0, 0))) (e_T 10 (e_L 10 (0, ei_push (4, 1) 11, 0, 0)) (e_L 11 (0, ei_push (4, 16) 14, 0, 0))))) (e_T 21 (e_T 17 (e_T 14 (e_L 14 (2, e_nof, 266, 3)) (e_L 17 (0, ei_if1 0 32 20, 0, 0))) (e_T 20 (e_L 20 (0, ei_load 3 0 21, 0, 0)) (e_L 21 (0, ei_un (fun x => (4, x)) 22, 0, 0)))) (e_T 23 (e_T 22 (e_L 22 (0, ei_push (4, 0) 23, 0, 0)) (e_L 23 (0, ei_push (4, 2000) 26, 0, 0))) (e_T 26 (e_L 26 (2, e_nof, 266, 3)) (e_L 29 (0, ei_if1 1 34 32, 0, 0)))))) (e_T 45 (e_T 35 (e_T 33 (e_T 32 (e_L 32 (0, ei_push (0, (-1)) 33, 0, 0)) (e_L 33 (1, e_nof, 1, 0))) (e_T 34 (e_L 34 (0, ei_load 0 2 35, 0, 0)) (e_L 35 (0, ei_getf eft elay 12 3 38, 0, 0)))) (e_T 41 (e_T 38 (e_L 38 (0, ei_if1 0 55 41, 0, 0)) (e_L 41 (0, ei_load 0 2 42, 0, 0))) (e_T 42 (e_L 42 (0, ei_getf eft elay 12 0 45, 0, 0)) (e_L 45 (0, ei_load 1 0 46, 0, 0))))) (e_T 51 (e_T 49 (e_T 46 (e_L 46 (2, e_nof, 268, 1)) (e_L 49 (0, ei_push (0, 0) 50, 0, 0))) (e_T 50 (e_L 50 (0, ei_bin eF_add 51, 0, 0)) (e_L 51 (0, ei_ald elay false 52, 0, 0)))) (e_T 55 (e_T 52 (e_L 52 (0, ei_if1 0 58 55, 0, 0)) (e_L 55 (0, ei_push (0, (-2)) 57, 0, 0))) (e_T 57 (e_L 57 (1, e_nof, 1, 0)) (e_L 58 (0, ei_load 0 2 59, 0, 0)))))))
set_option maxRecDepth 20000 in
set_option maxHeartbeats 4000000 in
theorem te_418_0_ok : ∀ pc, e_EOq eft cls elay eI n_418 pc (te_418_0 pc) :=
  (e_Tok2
  (e_Tok2
  (e_Tok2
  (e_Tok2
  (e_Tok2
  (e_Lok (ld_aload_n_0 (x_dk dn_418_0_0_ok 0 rfl)))
  (e_Lok (ld_iload_n_1 (x_dk dn_418_0_0_ok 1 rfl))))
  (e_Tok2
  (e_Lok (lk_12_305 ho_418 (x_dk dn_418_0_0_ok 2 rfl)))
  (e_Lok (e_st (I := eI) (er_ifeq (off := 27) (tg := 32) (x_dk dn_418_0_0_ok 3 rfl) (by decide)) nx_if1))))
  (e_Tok2
  (e_Tok2
  (e_Lok (ld_iload_n_2 (x_dk dn_418_0_0_ok 4 rfl)))
  (e_Lok (e_st (I := eI) (er_i2l (x_dk dn_418_0_0_ok 5 rfl)) (nx_un (fun _ => rfl)))))
  (e_Tok2
  (e_Lok (ps_lconst_1 (x_dk dn_418_0_0_ok 6 rfl)))
  (e_Lok (e_st (I := eI) (er_ldc2 (ix := 849) (z := 16) (v := 16) (x_dk dn_418_0_0_ok 7 rfl) (in_t12 (List.mem_of_getElem? (i := 117) rfl) rfl) (by decide)) (nx_push (Or.inl rfl)))))))
  (e_Tok2
  (e_Tok2
  (e_Tok2
  (e_Lok (lk_12_301 ho_418 (x_dk dn_418_0_0_ok 8 rfl)))
  (e_Lok (e_st (I := eI) (er_ifeq (off := 15) (tg := 32) (x_dk dn_418_0_0_ok 9 rfl) (by decide)) nx_if1)))
  (e_Tok2
  (e_Lok (ld_iload_n_3 (x_dk dn_418_0_0_ok 10 rfl)))
  (e_Lok (e_st (I := eI) (er_i2l (x_dk dn_418_0_0_ok 11 rfl)) (nx_un (fun _ => rfl))))))
  (e_Tok2
  (e_Tok2
  (e_Lok (ps_lconst_0 (x_dk dn_418_0_0_ok 12 rfl)))
  (e_Lok (e_st (I := eI) (er_ldc2 (ix := 336) (z := 2000) (v := 2000) (x_dk dn_418_0_0_ok 13 rfl) (in_t11 (List.mem_of_getElem? (i := 41) rfl) rfl) (by decide)) (nx_push (Or.inl rfl)))))
  (e_Tok2
  (e_Lok (lk_12_301 ho_418 (x_dk dn_418_0_0_ok 14 rfl)))
  (e_Lok (e_st (I := eI) (er_ifne (off := 5) (tg := 34) (x_dk dn_418_0_0_ok 15 rfl) (by decide)) nx_if1))))))
  (e_Tok2
  (e_Tok2
  (e_Tok2
  (e_Tok2
  (e_Lok (ps_iconst_m1 (x_dk dn_418_0_0_ok 16 rfl)))
  (e_Lok (e_rt (I := eI) (k := 1) ⟨(x_dk dn_418_0_0_ok 17 rfl), rfl⟩)))
  (e_Tok2
  (e_Lok (ld_aload_n_0 (x_dk dn_418_0_0_ok 18 rfl)))
  (e_Lok (lk_12_265g ho_418 (x_dk dn_418_0_0_ok 19 rfl)))))
  (e_Tok2
  (e_Tok2
  (e_Lok (e_st (I := eI) (er_ifeq (off := 17) (tg := 55) (x_dk dn_418_0_0_ok 20 rfl) (by decide)) nx_if1))
  (e_Lok (ld_aload_n_0 (x_dk dn_418_0_0_ok 21 rfl))))
  (e_Tok2
  (e_Lok (lk_12_8g ho_418 (x_dk dn_418_0_0_ok 22 rfl)))
  (e_Lok (ld_iload_n_1 (x_dk dn_418_0_0_ok 23 rfl))))))
  (e_Tok2
  (e_Tok2
  (e_Tok2
  (e_Lok (lk_12_294 ho_418 (x_dk dn_418_0_0_ok 24 rfl)))
  (e_Lok (ps_iconst_0 (x_dk dn_418_0_1_ok 0 rfl))))
  (e_Tok2
  (e_Lok (sm_iadd (x_dk dn_418_0_1_ok 1 rfl)))
  (e_Lok (sm_iaload (x_dk dn_418_0_1_ok 2 rfl)))))
  (e_Tok2
  (e_Tok2
  (e_Lok (e_st (I := eI) (er_ifeq (off := 6) (tg := 58) (x_dk dn_418_0_1_ok 3 rfl) (by decide)) nx_if1))
  (e_Lok (ps_bipush_m2 (x_dk dn_418_0_1_ok 4 rfl))))
  (e_Tok2
  (e_Lok (e_rt (I := eI) (k := 1) ⟨(x_dk dn_418_0_1_ok 5 rfl), rfl⟩))
  (e_Lok (ld_aload_n_0 (x_dk dn_418_0_1_ok 6 rfl))))))))
def te_418_32 : Nat → eE := (e_T 92 (e_T 74 (e_T 64 (e_T 60 (e_T 59 (e_L 59 (0, ei_load 1 0 60, 0, 0)) (e_L 60 (0, ei_load 2 0 61, 0, 0))) (e_T 61 (e_L 61 (2, e_nof, 409, 3)) (e_L 64 (0, ei_stor 4 0 66, 0, 0)))) (e_T 68 (e_T 66 (e_L 66 (0, ei_load 4 0 68, 0, 0)) (e_L 68 (0, ei_push (0, 1000) 71, 0, 0))) (e_T 71 (e_L 71 (0, ei_if2 4 90 74, 0, 0)) (e_L 74 (0, ei_load 0 2 75, 0, 0))))) (e_T 83 (e_T 78 (e_T 75 (e_L 75 (0, ei_getf eft elay 12 118 78, 0, 0)) (e_L 78 (0, ei_push (0, 60) 80, 0, 0))) (e_T 80 (e_L 80 (0, ei_if2 1 93 83, 0, 0)) (e_L 83 (0, ei_load 0 2 84, 0, 0)))) (e_T 87 (e_T 84 (e_L 84 (0, ei_getf eft elay 12 6 87, 0, 0)) (e_L 87 (0, ei_if1 1 93 90, 0, 0))) (e_T 90 (e_L 90 (0, ei_push (0, (-3)) 92, 0, 0)) (e_L 92 (1, e_nof, 1, 0)))))) (e_T 106 (e_T 98 (e_T 94 (e_T 93 (e_L 93 (0, ei_load 0 2 94, 0, 0)) (e_L 94 (0, ei_stk ef_dup 95, 0, 0))) (e_T 95 (e_L 95 (0, ei_getf eft elay 12 118 98, 0, 0)) (e_L 98 (0, ei_load 0 2 99, 0, 0)))) (e_T 102 (e_T 99 (e_L 99 (0, ei_getf eft elay 12 6 102, 0, 0)) (e_L 102 (0, ei_if1 0 109 105, 0, 0))) (e_T 105 (e_L 105 (0, ei_push (0, 0) 106, 0, 0)) (e_L 106 (0, ei_goto 110, 0, 0))))) (e_T 114 (e_T 110 (e_T 109 (e_L 109 (0, ei_push (0, 1) 110, 0, 0)) (e_L 110 (0, ei_bin eF_add 111, 0, 0))) (e_T 111 (e_L 111 (0, ei_putf eft elay 12 118 0 114, 0, 0)) (e_L 114 (0, ei_push (0, 0) 115, 0, 0)))) (e_T 117 (e_T 115 (e_L 115 (0, ei_stor 5 0 117, 0, 0)) (e_L 117 (0, ei_push (0, 0) 118, 0, 0))) (e_T 118 (e_L 118 (0, ei_stor 6 0 120, 0, 0)) (e_L 120 (0, ei_push (0, 0) 121, 0, 0)))))))
set_option maxRecDepth 20000 in
set_option maxHeartbeats 4000000 in
theorem te_418_32_ok : ∀ pc, e_EOq eft cls elay eI n_418 pc (te_418_32 pc) :=
  (e_Tok2
  (e_Tok2
  (e_Tok2
  (e_Tok2
  (e_Tok2
  (e_Lok (ld_iload_n_1 (x_dk dn_418_0_1_ok 7 rfl)))
  (e_Lok (ld_iload_n_2 (x_dk dn_418_0_1_ok 8 rfl))))
  (e_Tok2
  (e_Lok (lk_12_851 ho_418 (x_dk dn_418_0_1_ok 9 rfl)))
  (e_Lok (e_st (I := eI) (er_istore (i := 4) (x_dk dn_418_0_1_ok 10 rfl) (by decide +kernel)) nx_stor))))
  (e_Tok2
  (e_Tok2
  (e_Lok (ld_iload_4 (x_dk dn_418_0_1_ok 11 rfl)))
  (e_Lok (ps_sipush_1000 (x_dk dn_418_0_1_ok 12 rfl))))
  (e_Tok2
  (e_Lok (e_st (I := eI) (er_icmpgt (off := 19) (tg := 90) (x_dk dn_418_0_1_ok 13 rfl) (by decide)) nx_if2))
  (e_Lok (ld_aload_n_0 (x_dk dn_418_0_1_ok 14 rfl))))))
  (e_Tok2
  (e_Tok2
  (e_Tok2
  (e_Lok (lk_12_291g ho_418 (x_dk dn_418_0_1_ok 15 rfl)))
  (e_Lok (ps_bipush_60 (x_dk dn_418_0_1_ok 16 rfl))))
  (e_Tok2
  (e_Lok (e_st (I := eI) (er_icmpne (off := 13) (tg := 93) (x_dk dn_418_0_1_ok 17 rfl) (by decide)) nx_if2))
  (e_Lok (ld_aload_n_0 (x_dk dn_418_0_1_ok 18 rfl)))))
  (e_Tok2
  (e_Tok2
  (e_Lok (lk_12_771g ho_418 (x_dk dn_418_0_1_ok 19 rfl)))
  (e_Lok (e_st (I := eI) (er_ifne (off := 6) (tg := 93) (x_dk dn_418_0_1_ok 20 rfl) (by decide)) nx_if1)))
  (e_Tok2
  (e_Lok (ps_bipush_m3 (x_dk dn_418_0_1_ok 21 rfl)))
  (e_Lok (e_rt (I := eI) (k := 1) ⟨(x_dk dn_418_0_1_ok 22 rfl), rfl⟩))))))
  (e_Tok2
  (e_Tok2
  (e_Tok2
  (e_Tok2
  (e_Lok (ld_aload_n_0 (x_dk dn_418_0_1_ok 23 rfl)))
  (e_Lok (e_st (I := eI) (er_dup (x_dk dn_418_0_1_ok 24 rfl)) (nx_stk bf_dup))))
  (e_Tok2
  (e_Lok (lk_12_291g ho_418 (x_dk dn_418_0_2_ok 0 rfl)))
  (e_Lok (ld_aload_n_0 (x_dk dn_418_0_2_ok 1 rfl)))))
  (e_Tok2
  (e_Tok2
  (e_Lok (lk_12_771g ho_418 (x_dk dn_418_0_2_ok 2 rfl)))
  (e_Lok (e_st (I := eI) (er_ifeq (off := 7) (tg := 109) (x_dk dn_418_0_2_ok 3 rfl) (by decide)) nx_if1)))
  (e_Tok2
  (e_Lok (ps_iconst_0 (x_dk dn_418_0_2_ok 4 rfl)))
  (e_Lok (e_st (I := eI) (er_goto (off := 4) (tg := 110) (x_dk dn_418_0_2_ok 5 rfl) (by decide)) nx_goto)))))
  (e_Tok2
  (e_Tok2
  (e_Tok2
  (e_Lok (ps_iconst_1 (x_dk dn_418_0_2_ok 6 rfl)))
  (e_Lok (sm_iadd (x_dk dn_418_0_2_ok 7 rfl))))
  (e_Tok2
  (e_Lok (lk_12_291p ho_418 (x_dk dn_418_0_2_ok 8 rfl)))
  (e_Lok (ps_iconst_0 (x_dk dn_418_0_2_ok 9 rfl)))))
  (e_Tok2
  (e_Tok2
  (e_Lok (e_st (I := eI) (er_istore (i := 5) (x_dk dn_418_0_2_ok 10 rfl) (by decide +kernel)) nx_stor))
  (e_Lok (ps_iconst_0 (x_dk dn_418_0_2_ok 11 rfl))))
  (e_Tok2
  (e_Lok (e_st (I := eI) (er_istore (i := 6) (x_dk dn_418_0_2_ok 12 rfl) (by decide +kernel)) nx_stor))
  (e_Lok (ps_iconst_0 (x_dk dn_418_0_2_ok 13 rfl))))))))
def te_418_64 : Nat → eE := (e_T 148 (e_T 134 (e_T 126 (e_T 123 (e_T 121 (e_L 121 (0, ei_stor 7 0 123, 0, 0)) (e_L 123 (0, ei_load 7 0 125, 0, 0))) (e_T 125 (e_L 125 (0, ei_load 0 2 126, 0, 0)) (e_L 126 (0, ei_getf eft elay 12 15 129, 0, 0)))) (e_T 130 (e_T 129 (e_L 129 (0, ei_load 1 0 130, 0, 0)) (e_L 130 (0, ei_ald elay false 131, 0, 0))) (e_T 131 (e_L 131 (0, ei_if2 3 266 134, 0, 0)) (e_L 134 (0, ei_load 0 2 135, 0, 0))))) (e_T 142 (e_T 138 (e_T 135 (e_L 135 (0, ei_getf eft elay 12 0 138, 0, 0)) (e_L 138 (0, ei_push (0, 8) 140, 0, 0))) (e_T 140 (e_L 140 (0, ei_load 7 0 142, 0, 0)) (e_L 142 (0, ei_bin eF_add 143, 0, 0)))) (e_T 144 (e_T 143 (e_L 143 (0, ei_ald elay false 144, 0, 0)) (e_L 144 (0, ei_stor 8 0 146, 0, 0))) (e_T 146 (e_L 146 (0, ei_load 8 0 148, 0, 0)) (e_L 148 (0, ei_un (fun x => (4, x)) 149, 0, 0)))))) (e_T 160 (e_T 155 (e_T 150 (e_T 149 (e_L 149 (0, ei_load 0 2 150, 0, 0)) (e_L 150 (0, ei_getf eft elay 12 17 153, 0, 0))) (e_T 153 (e_L 153 (0, ei_push (0, 6) 155, 0, 0)) (e_L 155 (0, ei_load 1 0 156, 0, 0)))) (e_T 157 (e_T 156 (e_L 156 (0, ei_bin eF_mul 157, 0, 0)) (e_L 157 (0, ei_load 7 0 159, 0, 0))) (e_T 159 (e_L 159 (0, ei_bin eF_add 160, 0, 0)) (e_L 160 (0, ei_ald elay false 161, 0, 0))))) (e_T 166 (e_T 162 (e_T 161 (e_L 161 (0, ei_un (fun x => (4, x)) 162, 0, 0)) (e_L 162 (0, ei_load 0 2 163, 0, 0))) (e_T 163 (e_L 163 (0, ei_getf eft elay 12 18 166, 0, 0)) (e_L 166 (0, ei_push (0, 6) 168, 0, 0)))) (e_T 169 (e_T 168 (e_L 168 (0, ei_load 1 0 169, 0, 0)) (e_L 169 (0, ei_bin eF_mul 170, 0, 0))) (e_T 170 (e_L 170 (0, ei_load 7 0 172, 0, 0)) (e_L 172 (0, ei_bin eF_add 173, 0, 0)))))))
set_option maxRecDepth 20000 in
set_option maxHeartbeats 4000000 in
theorem te_418_64_ok : ∀ pc, e_EOq eft cls elay eI n_418 pc (te_418_64 pc) :=
  (e_Tok2
  (e_Tok2
  (e_Tok2
  (e_Tok2
  (e_Tok2
  (e_Lok (e_st (I := eI) (er_istore (i := 7) (x_dk dn_418_0_2_ok 14 rfl) (by decide +kernel)) nx_stor))
  (e_Lok (ld_iload_7 (x_dk dn_418_0_2_ok 15 rfl))))
  (e_Tok2
  (e_Lok (ld_aload_n_0 (x_dk dn_418_0_2_ok 16 rfl)))
  (e_Lok (lk_12_43g ho_418 (x_dk dn_418_0_2_ok 17 rfl)))))
  (e_Tok2
  (e_Tok2
  (e_Lok (ld_iload_n_1 (x_dk dn_418_0_2_ok 18 rfl)))
  (e_Lok (sm_iaload (x_dk dn_418_0_2_ok 19 rfl))))
  (e_Tok2
  (e_Lok (e_st (I := eI) (er_icmpge (off := 135) (tg := 266) (x_dk dn_418_0_2_ok 20 rfl) (by decide)) nx_if2))
  (e_Lok (ld_aload_n_0 (x_dk dn_418_0_2_ok 21 rfl))))))
  (e_Tok2
  (e_Tok2
  (e_Tok2
  (e_Lok (lk_12_8g ho_418 (x_dk dn_418_0_2_ok 22 rfl)))
  (e_Lok (ps_bipush_8 (x_dk dn_418_0_2_ok 23 rfl))))
  (e_Tok2
  (e_Lok (ld_iload_7 (x_dk dn_418_0_2_ok 24 rfl)))
  (e_Lok (sm_iadd (x_dk dn_418_0_3_ok 0 rfl)))))
  (e_Tok2
  (e_Tok2
  (e_Lok (sm_iaload (x_dk dn_418_0_3_ok 1 rfl)))
  (e_Lok (e_st (I := eI) (er_istore (i := 8) (x_dk dn_418_0_3_ok 2 rfl) (by decide +kernel)) nx_stor)))
  (e_Tok2
  (e_Lok (ld_iload_8 (x_dk dn_418_0_3_ok 3 rfl)))
  (e_Lok (e_st (I := eI) (er_i2l (x_dk dn_418_0_3_ok 4 rfl)) (nx_un (fun _ => rfl))))))))
  (e_Tok2
  (e_Tok2
  (e_Tok2
  (e_Tok2
  (e_Lok (ld_aload_n_0 (x_dk dn_418_0_3_ok 5 rfl)))
  (e_Lok (lk_12_49g ho_418 (x_dk dn_418_0_3_ok 6 rfl))))
  (e_Tok2
  (e_Lok (ps_bipush_6 (x_dk dn_418_0_3_ok 7 rfl)))
  (e_Lok (ld_iload_n_1 (x_dk dn_418_0_3_ok 8 rfl)))))
  (e_Tok2
  (e_Tok2
  (e_Lok (sm_imul (x_dk dn_418_0_3_ok 9 rfl)))
  (e_Lok (ld_iload_7 (x_dk dn_418_0_3_ok 10 rfl))))
  (e_Tok2
  (e_Lok (sm_iadd (x_dk dn_418_0_3_ok 11 rfl)))
  (e_Lok (sm_iaload (x_dk dn_418_0_3_ok 12 rfl))))))
  (e_Tok2
  (e_Tok2
  (e_Tok2
  (e_Lok (e_st (I := eI) (er_i2l (x_dk dn_418_0_3_ok 13 rfl)) (nx_un (fun _ => rfl))))
  (e_Lok (ld_aload_n_0 (x_dk dn_418_0_3_ok 14 rfl))))
  (e_Tok2
  (e_Lok (lk_12_52g ho_418 (x_dk dn_418_0_3_ok 15 rfl)))
  (e_Lok (ps_bipush_6 (x_dk dn_418_0_3_ok 16 rfl)))))
  (e_Tok2
  (e_Tok2
  (e_Lok (ld_iload_n_1 (x_dk dn_418_0_3_ok 17 rfl)))
  (e_Lok (sm_imul (x_dk dn_418_0_3_ok 18 rfl))))
  (e_Tok2
  (e_Lok (ld_iload_7 (x_dk dn_418_0_3_ok 19 rfl)))
  (e_Lok (sm_iadd (x_dk dn_418_0_3_ok 20 rfl))))))))
def te_418_96 : Nat → eE := (e_T 199 (e_T 187 (e_T 178 (e_T 174 (e_T 173 (e_L 173 (0, ei_ald elay false 174, 0, 0)) (e_L 174 (0, ei_un (fun x => (4, x)) 175, 0, 0))) (e_T 175 (e_L 175 (2, e_nof, 266, 3)) (e_L 178 (0, ei_if1 0 196 181, 0, 0)))) (e_T 183 (e_T 181 (e_L 181 (0, ei_load 8 0 183, 0, 0)) (e_L 183 (0, ei_load 0 2 184, 0, 0))) (e_T 184 (e_L 184 (0, ei_getf eft elay 12 105 187, 0, 0)) (e_L 187 (0, ei_load 7 0 189, 0, 0))))) (e_T 192 (e_T 190 (e_T 189 (e_L 189 (0, ei_ald elay false 190, 0, 0)) (e_L 190 (0, ei_bin eF_sub 191, 0, 0))) (e_T 191 (e_L 191 (0, ei_load 2 0 192, 0, 0)) (e_L 192 (0, ei_bin eF_rem 193, 0, 0)))) (e_T 196 (e_T 193 (e_L 193 (0, ei_if1 0 199 196, 0, 0)) (e_L 196 (0, ei_push (0, (-2)) 198, 0, 0))) (e_T 198 (e_L 198 (1, e_nof, 1, 0)) (e_L 199 (0, ei_load 5 0 201, 0, 0)))))) (e_T 215 (e_T 207 (e_T 202 (e_T 201 (e_L 201 (0, ei_load 0 2 202, 0, 0)) (e_L 202 (0, ei_load 7 0 204, 0, 0))) (e_T 204 (e_L 204 (2, e_nof, 411, 2)) (e_L 207 (0, ei_load 0 2 208, 0, 0)))) (e_T 211 (e_T 208 (e_L 208 (0, ei_getf eft elay 12 0 211, 0, 0)) (e_L 211 (0, ei_load 1 0 212, 0, 0))) (e_T 212 (e_L 212 (2, e_nof, 268, 1)) (e_L 215 (0, ei_push (0, 16) 217, 0, 0))))) (e_T 221 (e_T 218 (e_T 217 (e_L 217 (0, ei_bin eF_add 218, 0, 0)) (e_L 218 (0, ei_load 7 0 220, 0, 0))) (e_T 220 (e_L 220 (0, ei_bin eF_add 221, 0, 0)) (e_L 221 (0, ei_ald elay false 222, 0, 0)))) (e_T 223 (e_T 222 (e_L 222 (0, ei_load 0 2 223, 0, 0)) (e_L 223 (0, ei_getf eft elay 12 105 226, 0, 0))) (e_T 226 (e_L 226 (0, ei_load 7 0 228, 0, 0)) (e_L 228 (0, ei_ald elay false 229, 0, 0)))))))
set_option maxRecDepth 20000 in
set_option maxHeartbeats 4000000 in
theorem te_418_96_ok : ∀ pc, e_EOq eft cls elay eI n_418 pc (te_418_96 pc) :=
  (e_Tok2
  (e_Tok2
  (e_Tok2
  (e_Tok2
  (e_Tok2
  (e_Lok (sm_iaload (x_dk dn_418_0_3_ok 21 rfl)))
  (e_Lok (e_st (I := eI) (er_i2l (x_dk dn_418_0_3_ok 22 rfl)) (nx_un (fun _ => rfl)))))
  (e_Tok2
  (e_Lok (lk_12_301 ho_418 (x_dk dn_418_0_3_ok 23 rfl)))
  (e_Lok (e_st (I := eI) (er_ifeq (off := 18) (tg := 196) (x_dk dn_418_0_3_ok 24 rfl) (by decide)) nx_if1))))
  (e_Tok2
  (e_Tok2
  (e_Lok (ld_iload_8 (x_dk dn_418_1_0_ok 0 rfl)))
  (e_Lok (ld_aload_n_0 (x_dk dn_418_1_0_ok 1 rfl))))
  (e_Tok2
  (e_Lok (lk_12_231g ho_418 (x_dk dn_418_1_0_ok 2 rfl)))
  (e_Lok (ld_iload_7 (x_dk dn_418_1_0_ok 3 rfl))))))
  (e_Tok2
  (e_Tok2
  (e_Tok2
  (e_Lok (sm_iaload (x_dk dn_418_1_0_ok 4 rfl)))
  (e_Lok (sm_isub (x_dk dn_418_1_0_ok 5 rfl))))
  (e_Tok2
  (e_Lok (ld_iload_n_2 (x_dk dn_418_1_0_ok 6 rfl)))
  (e_Lok (e_st (I := eI) (er_irem (x_dk dn_418_1_0_ok 7 rfl)) nx_bin))))
  (e_Tok2
  (e_Tok2
  (e_Lok (e_st (I := eI) (er_ifeq (off := 6) (tg := 199) (x_dk dn_418_1_0_ok 8 rfl) (by decide)) nx_if1))
  (e_Lok (ps_bipush_m2 (x_dk dn_418_1_0_ok 9 rfl))))
  (e_Tok2
  (e_Lok (e_rt (I := eI) (k := 1) ⟨(x_dk dn_418_1_0_ok 10 rfl), rfl⟩))
  (e_Lok (ld_iload_5 (x_dk dn_418_1_0_ok 11 rfl)))))))
  (e_Tok2
  (e_Tok2
  (e_Tok2
  (e_Tok2
  (e_Lok (ld_aload_n_0 (x_dk dn_418_1_0_ok 12 rfl)))
  (e_Lok (ld_iload_7 (x_dk dn_418_1_0_ok 13 rfl))))
  (e_Tok2
  (e_Lok (lk_12_840 ho_418 (x_dk dn_418_1_0_ok 14 rfl)))
  (e_Lok (ld_aload_n_0 (x_dk dn_418_1_0_ok 15 rfl)))))
  (e_Tok2
  (e_Tok2
  (e_Lok (lk_12_8g ho_418 (x_dk dn_418_1_0_ok 16 rfl)))
  (e_Lok (ld_iload_n_1 (x_dk dn_418_1_0_ok 17 rfl))))
  (e_Tok2
  (e_Lok (lk_12_294 ho_418 (x_dk dn_418_1_0_ok 18 rfl)))
  (e_Lok (ps_bipush_16 (x_dk dn_418_1_0_ok 19 rfl))))))
  (e_Tok2
  (e_Tok2
  (e_Tok2
  (e_Lok (sm_iadd (x_dk dn_418_1_0_ok 20 rfl)))
  (e_Lok (ld_iload_7 (x_dk dn_418_1_0_ok 21 rfl))))
  (e_Tok2
  (e_Lok (sm_iadd (x_dk dn_418_1_0_ok 22 rfl)))
  (e_Lok (sm_iaload (x_dk dn_418_1_0_ok 23 rfl)))))
  (e_Tok2
  (e_Tok2
  (e_Lok (ld_aload_n_0 (x_dk dn_418_1_0_ok 24 rfl)))
  (e_Lok (lk_12_231g ho_418 (x_dk dn_418_1_1_ok 0 rfl))))
  (e_Tok2
  (e_Lok (ld_iload_7 (x_dk dn_418_1_1_ok 1 rfl)))
  (e_Lok (sm_iaload (x_dk dn_418_1_1_ok 2 rfl))))))))
def te_418_128 : Nat → eE := (e_T 253 (e_T 238 (e_T 232 (e_T 230 (e_T 229 (e_L 229 (0, ei_bin eF_sub 230, 0, 0)) (e_L 230 (0, ei_load 2 0 231, 0, 0))) (e_T 231 (e_L 231 (0, ei_bin eF_div 232, 0, 0)) (e_L 232 (0, ei_bin eF_mul 233, 0, 0)))) (e_T 234 (e_T 233 (e_L 233 (0, ei_bin eF_add 234, 0, 0)) (e_L 234 (0, ei_stor 5 0 236, 0, 0))) (e_T 236 (e_L 236 (0, ei_load 6 0 238, 0, 0)) (e_L 238 (0, ei_load 0 2 239, 0, 0))))) (e_T 246 (e_T 241 (e_T 239 (e_L 239 (0, ei_load 7 0 241, 0, 0)) (e_L 241 (2, e_nof, 411, 2))) (e_T 244 (e_L 244 (0, ei_load 8 0 246, 0, 0)) (e_L 246 (0, ei_load 0 2 247, 0, 0)))) (e_T 250 (e_T 247 (e_L 247 (0, ei_getf eft elay 12 105 250, 0, 0)) (e_L 250 (0, ei_load 7 0 252, 0, 0))) (e_T 252 (e_L 252 (0, ei_ald elay false 253, 0, 0)) (e_L 253 (0, ei_bin eF_sub 254, 0, 0)))))) (e_T 266 (e_T 257 (e_T 255 (e_T 254 (e_L 254 (0, ei_load 2 0 255, 0, 0)) (e_L 255 (0, ei_bin eF_div 256, 0, 0))) (e_T 256 (e_L 256 (0, ei_bin eF_mul 257, 0, 0)) (e_L 257 (0, ei_bin eF_add 258, 0, 0)))) (e_T 260 (e_T 258 (e_L 258 (0, ei_stor 6 0 260, 0, 0)) (e_L 260 (0, ei_inc 7 1 263, 0, 0))) (e_T 263 (e_L 263 (0, ei_goto 123, 0, 0)) (e_L 266 (0, ei_load 0 2 267, 0, 0))))) (e_T 272 (e_T 268 (e_T 267 (e_L 267 (0, ei_load 1 0 268, 0, 0)) (e_L 268 (0, ei_putf eft elay 12 110 0 271, 0, 0))) (e_T 271 (e_L 271 (0, ei_load 0 2 272, 0, 0)) (e_L 272 (0, ei_load 2 0 273, 0, 0)))) (e_T 276 (e_T 273 (e_L 273 (0, ei_putf eft elay 12 111 0 276, 0, 0)) (e_L 276 (0, ei_load 0 2 277, 0, 0))) (e_T 277 (e_L 277 (0, ei_load 3 0 278, 0, 0)) (e_L 278 (0, ei_putf eft elay 12 112 0 281, 0, 0)))))))
set_option maxRecDepth 20000 in
set_option maxHeartbeats 4000000 in
theorem te_418_128_ok : ∀ pc, e_EOq eft cls elay eI n_418 pc (te_418_128 pc) :=
  (e_Tok2
  (e_Tok2
  (e_Tok2
  (e_Tok2
  (e_Tok2
  (e_Lok (sm_isub (x_dk dn_418_1_1_ok 3 rfl)))
  (e_Lok (ld_iload_n_2 (x_dk dn_418_1_1_ok 4 rfl))))
  (e_Tok2
  (e_Lok (e_st (I := eI) (er_idiv (x_dk dn_418_1_1_ok 5 rfl)) nx_bin))
  (e_Lok (sm_imul (x_dk dn_418_1_1_ok 6 rfl)))))
  (e_Tok2
  (e_Tok2
  (e_Lok (sm_iadd (x_dk dn_418_1_1_ok 7 rfl)))
  (e_Lok (e_st (I := eI) (er_istore (i := 5) (x_dk dn_418_1_1_ok 8 rfl) (by decide +kernel)) nx_stor)))
  (e_Tok2
  (e_Lok (ld_iload_6 (x_dk dn_418_1_1_ok 9 rfl)))
  (e_Lok (ld_aload_n_0 (x_dk dn_418_1_1_ok 10 rfl))))))
  (e_Tok2
  (e_Tok2
  (e_Tok2
  (e_Lok (ld_iload_7 (x_dk dn_418_1_1_ok 11 rfl)))
  (e_Lok (lk_12_840 ho_418 (x_dk dn_418_1_1_ok 12 rfl))))
  (e_Tok2
  (e_Lok (ld_iload_8 (x_dk dn_418_1_1_ok 13 rfl)))
  (e_Lok (ld_aload_n_0 (x_dk dn_418_1_1_ok 14 rfl)))))
  (e_Tok2
  (e_Tok2
  (e_Lok (lk_12_231g ho_418 (x_dk dn_418_1_1_ok 15 rfl)))
  (e_Lok (ld_iload_7 (x_dk dn_418_1_1_ok 16 rfl))))
  (e_Tok2
  (e_Lok (sm_iaload (x_dk dn_418_1_1_ok 17 rfl)))
  (e_Lok (sm_isub (x_dk dn_418_1_1_ok 18 rfl)))))))
  (e_Tok2
  (e_Tok2
  (e_Tok2
  (e_Tok2
  (e_Lok (ld_iload_n_2 (x_dk dn_418_1_1_ok 19 rfl)))
  (e_Lok (e_st (I := eI) (er_idiv (x_dk dn_418_1_1_ok 20 rfl)) nx_bin)))
  (e_Tok2
  (e_Lok (sm_imul (x_dk dn_418_1_1_ok 21 rfl)))
  (e_Lok (sm_iadd (x_dk dn_418_1_1_ok 22 rfl)))))
  (e_Tok2
  (e_Tok2
  (e_Lok (e_st (I := eI) (er_istore (i := 6) (x_dk dn_418_1_1_ok 23 rfl) (by decide +kernel)) nx_stor))
  (e_Lok (e_st (I := eI) (er_iinc (i := 7) (n := 1) (x_dk dn_418_1_1_ok 24 rfl) (by decide +kernel) (by decide)) nx_inc)))
  (e_Tok2
  (e_Lok (e_st (I := eI) (er_goto (off := (-140)) (tg := 123) (x_dk dn_418_1_2_ok 0 rfl) (by decide)) nx_goto))
  (e_Lok (ld_aload_n_0 (x_dk dn_418_1_2_ok 1 rfl))))))
  (e_Tok2
  (e_Tok2
  (e_Tok2
  (e_Lok (ld_iload_n_1 (x_dk dn_418_1_2_ok 2 rfl)))
  (e_Lok (lk_12_819p ho_418 (x_dk dn_418_1_2_ok 3 rfl))))
  (e_Tok2
  (e_Lok (ld_aload_n_0 (x_dk dn_418_1_2_ok 4 rfl)))
  (e_Lok (ld_iload_n_2 (x_dk dn_418_1_2_ok 5 rfl)))))
  (e_Tok2
  (e_Tok2
  (e_Lok (lk_12_822p ho_418 (x_dk dn_418_1_2_ok 6 rfl)))
  (e_Lok (ld_aload_n_0 (x_dk dn_418_1_2_ok 7 rfl))))
  (e_Tok2
  (e_Lok (ld_iload_n_3 (x_dk dn_418_1_2_ok 8 rfl)))
  (e_Lok (lk_12_828p ho_418 (x_dk dn_418_1_2_ok 9 rfl))))))))
def te_418_160 : Nat → eE := (e_T 312 (e_T 296 (e_T 286 (e_T 282 (e_T 281 (e_L 281 (0, ei_load 0 2 282, 0, 0)) (e_L 282 (2, e_nof, 302, 1))) (e_T 285 (e_L 285 (0, ei_load 0 2 286, 0, 0)) (e_L 286 (0, ei_getf eft elay 12 6 289, 0, 0)))) (e_T 292 (e_T 289 (e_L 289 (0, ei_if1 0 315 292, 0, 0)) (e_L 292 (0, ei_load 0 2 293, 0, 0))) (e_T 293 (e_L 293 (0, ei_getf eft elay 12 115 296, 0, 0)) (e_L 296 (0, ei_load 0 2 297, 0, 0))))) (e_T 304 (e_T 300 (e_T 297 (e_L 297 (0, ei_getf eft elay 12 117 300, 0, 0)) (e_L 300 (0, ei_ald elay false 301, 0, 0))) (e_T 301 (e_L 301 (0, ei_if1 2 315 304, 0, 0)) (e_L 304 (0, ei_load 0 2 305, 0, 0)))) (e_T 306 (e_T 305 (e_L 305 (0, ei_load 0 2 306, 0, 0)) (e_L 306 (0, ei_getf eft elay 12 117 309, 0, 0))) (e_T 309 (e_L 309 (2, e_nof, 421, 2)) (e_L 312 (0, ei_goto 325, 0, 0)))))) (e_T 329 (e_T 320 (e_T 316 (e_T 315 (e_L 315 (0, ei_load 0 2 316, 0, 0)) (e_L 316 (0, ei_load 5 0 318, 0, 0))) (e_T 318 (e_L 318 (0, ei_load 6 0 320, 0, 0)) (e_L 320 (0, ei_load 4 0 322, 0, 0)))) (e_T 325 (e_T 322 (e_L 322 (2, e_nof, 417, 4)) (e_L 325 (0, ei_stor 7 0 327, 0, 0))) (e_T 327 (e_L 327 (0, ei_load 7 0 329, 0, 0)) (e_L 329 (0, ei_if1 3 335 332, 0, 0))))) (e_T 336 (e_T 334 (e_T 332 (e_L 332 (0, ei_push (0, (-2)) 334, 0, 0)) (e_L 334 (1, e_nof, 1, 0))) (e_T 335 (e_L 335 (0, ei_load 0 2 336, 0, 0)) (e_L 336 (2, e_nof, 422, 1)))) (e_T 342 (e_T 339 (e_L 339 (0, ei_if1 0 345 342, 0, 0)) (e_L 342 (0, ei_push (0, (-3)) 344, 0, 0))) (e_T 344 (e_L 344 (1, e_nof, 1, 0)) (e_L 345 (0, ei_load 1 0 346, 0, 0)))))))
set_option maxRecDepth 20000 in
set_option maxHeartbeats 4000000 in
theorem te_418_160_ok : ∀ pc, e_EOq eft cls elay eI n_418 pc (te_418_160 pc) :=
  (e_Tok2
  (e_Tok2
  (e_Tok2
  (e_Tok2
  (e_Tok2
  (e_Lok (ld_aload_n_0 (x_dk dn_418_1_2_ok 10 rfl)))
  (e_Lok (lk_12_401 ho_418 (x_dk dn_418_1_2_ok 11 rfl))))
  (e_Tok2
  (e_Lok (ld_aload_n_0 (x_dk dn_418_1_2_ok 12 rfl)))
  (e_Lok (lk_12_771g ho_418 (x_dk dn_418_1_2_ok 13 rfl)))))
  (e_Tok2
  (e_Tok2
  (e_Lok (e_st (I := eI) (er_ifeq (off := 26) (tg := 315) (x_dk dn_418_1_2_ok 14 rfl) (by decide)) nx_if1))
  (e_Lok (ld_aload_n_0 (x_dk dn_418_1_2_ok 15 rfl))))
  (e_Tok2
  (e_Lok (lk_12_253g ho_418 (x_dk dn_418_1_2_ok 16 rfl)))
  (e_Lok (ld_aload_n_0 (x_dk dn_418_1_2_ok 17 rfl))))))
  (e_Tok2
  (e_Tok2
  (e_Tok2
  (e_Lok (lk_12_854g ho_418 (x_dk dn_418_1_2_ok 18 rfl)))
  (e_Lok (sm_iaload (x_dk dn_418_1_2_ok 19 rfl))))
  (e_Tok2
  (e_Lok (e_st (I := eI) (er_iflt (off := 14) (tg := 315) (x_dk dn_418_1_2_ok 20 rfl) (by decide)) nx_if1))
  (e_Lok (ld_aload_n_0 (x_dk dn_418_1_2_ok 21 rfl)))))
  (e_Tok2
  (e_Tok2
  (e_Lok (ld_aload_n_0 (x_dk dn_418_1_2_ok 22 rfl)))
  (e_Lok (lk_12_854g ho_418 (x_dk dn_418_1_2_ok 23 rfl))))
  (e_Tok2
  (e_Lok (lk_12_857 ho_418 (x_dk dn_418_1_2_ok 24 rfl)))
  (e_Lok (e_st (I := eI) (er_goto (off := 13) (tg := 325) (x_dk dn_418_1_3_ok 0 rfl) (by decide)) nx_goto))))))
  (e_Tok2
  (e_Tok2
  (e_Tok2
  (e_Tok2
  (e_Lok (ld_aload_n_0 (x_dk dn_418_1_3_ok 1 rfl)))
  (e_Lok (ld_iload_5 (x_dk dn_418_1_3_ok 2 rfl))))
  (e_Tok2
  (e_Lok (ld_iload_6 (x_dk dn_418_1_3_ok 3 rfl)))
  (e_Lok (ld_iload_4 (x_dk dn_418_1_3_ok 4 rfl)))))
  (e_Tok2
  (e_Tok2
  (e_Lok (lk_12_860 ho_418 (x_dk dn_418_1_3_ok 5 rfl)))
  (e_Lok (e_st (I := eI) (er_istore (i := 7) (x_dk dn_418_1_3_ok 6 rfl) (by decide +kernel)) nx_stor)))
  (e_Tok2
  (e_Lok (ld_iload_7 (x_dk dn_418_1_3_ok 7 rfl)))
  (e_Lok (e_st (I := eI) (er_ifge (off := 6) (tg := 335) (x_dk dn_418_1_3_ok 8 rfl) (by decide)) nx_if1)))))
  (e_Tok2
  (e_Tok2
  (e_Tok2
  (e_Lok (ps_bipush_m2 (x_dk dn_418_1_3_ok 9 rfl)))
  (e_Lok (e_rt (I := eI) (k := 1) ⟨(x_dk dn_418_1_3_ok 10 rfl), rfl⟩)))
  (e_Tok2
  (e_Lok (ld_aload_n_0 (x_dk dn_418_1_3_ok 11 rfl)))
  (e_Lok (lk_12_863 ho_418 (x_dk dn_418_1_3_ok 12 rfl)))))
  (e_Tok2
  (e_Tok2
  (e_Lok (e_st (I := eI) (er_ifeq (off := 6) (tg := 345) (x_dk dn_418_1_3_ok 13 rfl) (by decide)) nx_if1))
  (e_Lok (ps_bipush_m3 (x_dk dn_418_1_3_ok 14 rfl))))
  (e_Tok2
  (e_Lok (e_rt (I := eI) (k := 1) ⟨(x_dk dn_418_1_3_ok 15 rfl), rfl⟩))
  (e_Lok (ld_iload_n_1 (x_dk dn_418_1_3_ok 16 rfl))))))))
def te_418_192 : Nat → eE := (e_T 372 (e_T 359 (e_T 352 (e_T 349 (e_T 346 (e_L 346 (2, e_nof, 268, 1)) (e_L 349 (0, ei_stor 8 0 351, 0, 0))) (e_T 351 (e_L 351 (0, ei_load 0 2 352, 0, 0)) (e_L 352 (0, ei_getf eft elay 12 0 355, 0, 0)))) (e_T 357 (e_T 355 (e_L 355 (0, ei_load 8 0 357, 0, 0)) (e_L 357 (0, ei_push (0, 3) 358, 0, 0))) (e_T 358 (e_L 358 (0, ei_bin eF_add 359, 0, 0)) (e_L 359 (0, ei_load 7 0 361, 0, 0))))) (e_T 366 (e_T 362 (e_T 361 (e_L 361 (0, ei_ast elay false 362, 0, 0)) (e_L 362 (0, ei_load 0 2 363, 0, 0))) (e_T 363 (e_L 363 (0, ei_getf eft elay 12 0 366, 0, 0)) (e_L 366 (0, ei_load 8 0 368, 0, 0)))) (e_T 370 (e_T 368 (e_L 368 (0, ei_push (0, 10) 370, 0, 0)) (e_L 370 (0, ei_bin eF_add 371, 0, 0))) (e_T 371 (e_L 371 (0, ei_load 2 0 372, 0, 0)) (e_L 372 (0, ei_ast elay false 373, 0, 0)))))) (e_T 383 (e_T 379 (e_T 374 (e_T 373 (e_L 373 (0, ei_load 0 2 374, 0, 0)) (e_L 374 (0, ei_getf eft elay 12 0 377, 0, 0))) (e_T 377 (e_L 377 (0, ei_load 8 0 379, 0, 0)) (e_L 379 (0, ei_push (0, 4) 380, 0, 0)))) (e_T 381 (e_T 380 (e_L 380 (0, ei_bin eF_add 381, 0, 0)) (e_L 381 (0, ei_push (0, 1) 382, 0, 0))) (e_T 382 (e_L 382 (0, ei_ast elay false 383, 0, 0)) (e_L 383 (0, ei_load 0 2 384, 0, 0))))) (e_T 390 (e_T 387 (e_T 384 (e_L 384 (0, ei_getf eft elay 12 0 387, 0, 0)) (e_L 387 (0, ei_load 8 0 389, 0, 0))) (e_T 389 (e_L 389 (0, ei_push (0, 5) 390, 0, 0)) (e_L 390 (0, ei_bin eF_add 391, 0, 0)))) (e_T 392 (e_T 391 (e_L 391 (0, ei_push (0, 1) 392, 0, 0)) (e_L 392 (0, ei_ast elay false 393, 0, 0))) (e_T 393 (e_L 393 (0, ei_push (0, 0) 394, 0, 0)) (e_L 394 (0, ei_stor 9 0 396, 0, 0)))))))
set_option maxRecDepth 20000 in
set_option maxHeartbeats 4000000 in
theorem te_418_192_ok : ∀ pc, e_EOq eft cls elay eI n_418 pc (te_418_192 pc) :=
  (e_Tok2
  (e_Tok2
  (e_Tok2
  (e_Tok2
  (e_Tok2
  (e_Lok (lk_12_294 ho_418 (x_dk dn_418_1_3_ok 17 rfl)))
  (e_Lok (e_st (I := eI) (er_istore (i := 8) (x_dk dn_418_1_3_ok 18 rfl) (by decide +kernel)) nx_stor)))
  (e_Tok2
  (e_Lok (ld_aload_n_0 (x_dk dn_418_1_3_ok 19 rfl)))
  (e_Lok (lk_12_8g ho_418 (x_dk dn_418_1_3_ok 20 rfl)))))
  (e_Tok2
  (e_Tok2
  (e_Lok (ld_iload_8 (x_dk dn_418_1_3_ok 21 rfl)))
  (e_Lok (ps_iconst_3 (x_dk dn_418_1_3_ok 22 rfl))))
  (e_Tok2
  (e_Lok (sm_iadd (x_dk dn_418_1_3_ok 23 rfl)))
  (e_Lok (ld_iload_7 (x_dk dn_418_1_3_ok 24 rfl))))))
  (e_Tok2
  (e_Tok2
  (e_Tok2
  (e_Lok (sm_iastore (x_dk dn_418_2_0_ok 0 rfl)))
  (e_Lok (ld_aload_n_0 (x_dk dn_418_2_0_ok 1 rfl))))
  (e_Tok2
  (e_Lok (lk_12_8g ho_418 (x_dk dn_418_2_0_ok 2 rfl)))
  (e_Lok (ld_iload_8 (x_dk dn_418_2_0_ok 3 rfl)))))
  (e_Tok2
  (e_Tok2
  (e_Lok (ps_bipush_10 (x_dk dn_418_2_0_ok 4 rfl)))
  (e_Lok (sm_iadd (x_dk dn_418_2_0_ok 5 rfl))))
  (e_Tok2
  (e_Lok (ld_iload_n_2 (x_dk dn_418_2_0_ok 6 rfl)))
  (e_Lok (sm_iastore (x_dk dn_418_2_0_ok 7 rfl)))))))
  (e_Tok2
  (e_Tok2
  (e_Tok2
  (e_Tok2
  (e_Lok (ld_aload_n_0 (x_dk dn_418_2_0_ok 8 rfl)))
  (e_Lok (lk_12_8g ho_418 (x_dk dn_418_2_0_ok 9 rfl))))
  (e_Tok2
  (e_Lok (ld_iload_8 (x_dk dn_418_2_0_ok 10 rfl)))
  (e_Lok (ps_iconst_4 (x_dk dn_418_2_0_ok 11 rfl)))))
  (e_Tok2
  (e_Tok2
  (e_Lok (sm_iadd (x_dk dn_418_2_0_ok 12 rfl)))
  (e_Lok (ps_iconst_1 (x_dk dn_418_2_0_ok 13 rfl))))
  (e_Tok2
  (e_Lok (sm_iastore (x_dk dn_418_2_0_ok 14 rfl)))
  (e_Lok (ld_aload_n_0 (x_dk dn_418_2_0_ok 15 rfl))))))
  (e_Tok2
  (e_Tok2
  (e_Tok2
  (e_Lok (lk_12_8g ho_418 (x_dk dn_418_2_0_ok 16 rfl)))
  (e_Lok (ld_iload_8 (x_dk dn_418_2_0_ok 17 rfl))))
  (e_Tok2
  (e_Lok (ps_iconst_5 (x_dk dn_418_2_0_ok 18 rfl)))
  (e_Lok (sm_iadd (x_dk dn_418_2_0_ok 19 rfl)))))
  (e_Tok2
  (e_Tok2
  (e_Lok (ps_iconst_1 (x_dk dn_418_2_0_ok 20 rfl)))
  (e_Lok (sm_iastore (x_dk dn_418_2_0_ok 21 rfl))))
  (e_Tok2
  (e_Lok (ps_iconst_0 (x_dk dn_418_2_0_ok 22 rfl)))
  (e_Lok (e_st (I := eI) (er_istore (i := 9) (x_dk dn_418_2_0_ok 23 rfl) (by decide +kernel)) nx_stor)))))))
def te_418_224 : Nat → eE := (e_T 427 (e_T 414 (e_T 404 (e_T 398 (e_T 396 (e_L 396 (0, ei_load 9 0 398, 0, 0)) (e_L 398 (0, ei_push (0, 1000) 401, 0, 0))) (e_T 401 (e_L 401 (0, ei_if2 3 445 404, 0, 0)) (e_L 404 (0, ei_load 0 2 405, 0, 0)))) (e_T 408 (e_T 405 (e_L 405 (0, ei_getf eft elay 12 0 408, 0, 0)) (e_L 408 (0, ei_push (0, 21060) 411, 0, 0))) (e_T 411 (e_L 411 (0, ei_push (0, 1000) 414, 0, 0)) (e_L 414 (0, ei_load 1 0 415, 0, 0))))) (e_T 419 (e_T 416 (e_T 415 (e_L 415 (0, ei_bin eF_mul 416, 0, 0)) (e_L 416 (0, ei_bin eF_add 417, 0, 0))) (e_T 417 (e_L 417 (0, ei_load 9 0 419, 0, 0)) (e_L 419 (0, ei_bin eF_add 420, 0, 0)))) (e_T 422 (e_T 420 (e_L 420 (0, ei_load 9 0 422, 0, 0)) (e_L 422 (0, ei_load 7 0 424, 0, 0))) (e_T 424 (e_L 424 (0, ei_if2 3 437 427, 0, 0)) (e_L 427 (0, ei_load 0 2 428, 0, 0)))))) (e_T 442 (e_T 434 (e_T 431 (e_T 428 (e_L 428 (0, ei_getf eft elay 12 113 431, 0, 0)) (e_L 431 (0, ei_load 9 0 433, 0, 0))) (e_T 433 (e_L 433 (0, ei_ald elay false 434, 0, 0)) (e_L 434 (0, ei_goto 438, 0, 0)))) (e_T 438 (e_T 437 (e_L 437 (0, ei_push (0, 0) 438, 0, 0)) (e_L 438 (0, ei_ast elay false 439, 0, 0))) (e_T 439 (e_L 439 (0, ei_inc 9 1 442, 0, 0)) (e_L 442 (0, ei_goto 396, 0, 0))))) (e_T 449 (e_T 446 (e_T 445 (e_L 445 (0, ei_load 0 2 446, 0, 0)) (e_L 446 (0, ei_push (0, 10) 448, 0, 0))) (e_T 448 (e_L 448 (0, ei_load 1 0 449, 0, 0)) (e_L 449 (0, ei_load 2 0 450, 0, 0)))) (e_T 451 (e_T 450 (e_L 450 (0, ei_load 3 0 451, 0, 0)) (e_L 451 (2, e_nof, 423, 5))) (e_T 454 (e_L 454 (0, ei_load 7 0 456, 0, 0)) (e_L 456 (1, e_nof, 1, 0)))))))
set_option maxRecDepth 20000 in
set_option maxHeartbeats 4000000 in
theorem te_418_224_ok : ∀ pc, e_EOq eft cls elay eI n_418 pc (te_418_224 pc) :=
  (e_Tok2
  (e_Tok2
  (e_Tok2
  (e_Tok2
  (e_Tok2
  (e_Lok (ld_iload_9 (x_dk dn_418_2_0_ok 24 rfl)))
  (e_Lok (ps_sipush_1000 (x_dk dn_418_2_1_ok 0 rfl))))
  (e_Tok2
  (e_Lok (e_st (I := eI) (er_icmpge (off := 44) (tg := 445) (x_dk dn_418_2_1_ok 1 rfl) (by decide)) nx_if2))
  (e_Lok (ld_aload_n_0 (x_dk dn_418_2_1_ok 2 rfl)))))
  (e_Tok2
  (e_Tok2
  (e_Lok (lk_12_8g ho_418 (x_dk dn_418_2_1_ok 3 rfl)))
  (e_Lok (ps_sipush_21060 (x_dk dn_418_2_1_ok 4 rfl))))
  (e_Tok2
  (e_Lok (ps_sipush_1000 (x_dk dn_418_2_1_ok 5 rfl)))
  (e_Lok (ld_iload_n_1 (x_dk dn_418_2_1_ok 6 rfl))))))
  (e_Tok2
  (e_Tok2
  (e_Tok2
  (e_Lok (sm_imul (x_dk dn_418_2_1_ok 7 rfl)))
  (e_Lok (sm_iadd (x_dk dn_418_2_1_ok 8 rfl))))
  (e_Tok2
  (e_Lok (ld_iload_9 (x_dk dn_418_2_1_ok 9 rfl)))
  (e_Lok (sm_iadd (x_dk dn_418_2_1_ok 10 rfl)))))
  (e_Tok2
  (e_Tok2
  (e_Lok (ld_iload_9 (x_dk dn_418_2_1_ok 11 rfl)))
  (e_Lok (ld_iload_7 (x_dk dn_418_2_1_ok 12 rfl))))
  (e_Tok2
  (e_Lok (e_st (I := eI) (er_icmpge (off := 13) (tg := 437) (x_dk dn_418_2_1_ok 13 rfl) (by decide)) nx_if2))
  (e_Lok (ld_aload_n_0 (x_dk dn_418_2_1_ok 14 rfl)))))))
  (e_Tok2
  (e_Tok2
  (e_Tok2
  (e_Tok2
  (e_Lok (lk_12_246g ho_418 (x_dk dn_418_2_1_ok 15 rfl)))
  (e_Lok (ld_iload_9 (x_dk dn_418_2_1_ok 16 rfl))))
  (e_Tok2
  (e_Lok (sm_iaload (x_dk dn_418_2_1_ok 17 rfl)))
  (e_Lok (e_st (I := eI) (er_goto (off := 4) (tg := 438) (x_dk dn_418_2_1_ok 18 rfl) (by decide)) nx_goto))))
  (e_Tok2
  (e_Tok2
  (e_Lok (ps_iconst_0 (x_dk dn_418_2_1_ok 19 rfl)))
  (e_Lok (sm_iastore (x_dk dn_418_2_1_ok 20 rfl))))
  (e_Tok2
  (e_Lok (e_st (I := eI) (er_iinc (i := 9) (n := 1) (x_dk dn_418_2_1_ok 21 rfl) (by decide +kernel) (by decide)) nx_inc))
  (e_Lok (e_st (I := eI) (er_goto (off := (-46)) (tg := 396) (x_dk dn_418_2_1_ok 22 rfl) (by decide)) nx_goto)))))
  (e_Tok2
  (e_Tok2
  (e_Tok2
  (e_Lok (ld_aload_n_0 (x_dk dn_418_2_1_ok 23 rfl)))
  (e_Lok (ps_bipush_10 (x_dk dn_418_2_1_ok 24 rfl))))
  (e_Tok2
  (e_Lok (ld_iload_n_1 (x_dk dn_418_2_2_ok 0 rfl)))
  (e_Lok (ld_iload_n_2 (x_dk dn_418_2_2_ok 1 rfl)))))
  (e_Tok2
  (e_Tok2
  (e_Lok (ld_iload_n_3 (x_dk dn_418_2_2_ok 2 rfl)))
  (e_Lok (lk_12_866 ho_418 (x_dk dn_418_2_2_ok 3 rfl))))
  (e_Tok2
  (e_Lok (ld_iload_7 (x_dk dn_418_2_2_ok 4 rfl)))
  (e_Lok (e_rt (I := eI) (k := 1) ⟨(x_dk dn_418_2_2_ok 5 rfl), rfl⟩)))))))
def te_418 : Nat → eE := (e_T 228 (e_T 120 (e_T 58 te_418_0 te_418_32) (e_T 172 te_418_64 te_418_96)) (e_T 345 (e_T 278 te_418_128 te_418_160) (e_T 394 te_418_192 te_418_224)))
theorem te_418_ok : ∀ pc, e_EOq eft cls elay eI n_418 pc (te_418 pc) := (e_Tok2 ((e_Tok2 ((e_Tok2 (te_418_0_ok) (te_418_32_ok))) ((e_Tok2 (te_418_64_ok) (te_418_96_ok))))) ((e_Tok2 ((e_Tok2 (te_418_128_ok) (te_418_160_ok))) ((e_Tok2 (te_418_192_ok) (te_418_224_ok))))))
end
end
-- part 41bj
section
noncomputable section
theorem ho_419 : (xm_y n_419).cls = "RobotCellHouseModel" := rfl
def dn_419_0_0 : List (Nat × Instr × Nat) := [(0, .aload_n 0, 1), (1, .iload_n 1, 1), (2, .invokevirtual 305, 3), (5, .ifCond .ne 5, 3), (8, .iconst (-1), 1), (9, .ireturn, 1), (10, .iload_n 1, 1), (11, .invokestatic 294, 3), (14, .istore_n 2, 1), (15, .aload_n 0, 1), (16, .getfield 265, 3), (19, .ifCond .eq 56, 3), (22, .aload_n 0, 1), (23, .getfield 8, 3), (26, .iload_n 2, 1), (27, .iconst 3, 1), (28, .iadd, 1), (29, .iaload, 1), (30, .ifCond .lt 45, 3), (33, .aload_n 0, 1), (34, .getfield 8, 3), (37, .iload_n 2, 1), (38, .iconst 4, 1), (39, .iadd, 1), (40, .iaload, 1)]
set_option maxRecDepth 20000 in
theorem dn_419_0_0_ok : dn_419_0_0.all (fun q => decide (decode (xm_b n_419) q.1 = .ok (q.2.1, q.2.2))) = true := xa_g_ok (by decide +kernel)
def dn_419_0_1 : List (Nat × Instr × Nat) := [(41, .ifCond .eq 34, 3), (44, .aload_n 0, 1), (45, .getfield 8, 3), (48, .iload_n 2, 1), (49, .iconst 0, 1), (50, .iadd, 1), (51, .iaload, 1), (52, .ifCond .ne 23, 3), (55, .aload_n 0, 1), (56, .getfield 8, 3), (59, .iload_n 2, 1), (60, .iconst 2, 1), (61, .iadd, 1), (62, .iaload, 1), (63, .ifCond .ge 12, 3), (66, .aload_n 0, 1), (67, .getfield 8, 3), (70, .iconst 1, 1), (71, .iaload, 1), (72, .ifCond .ne 6, 3), (75, .bipush (-2), 2), (77, .ireturn, 1), (78, .aload_n 0, 1), (79, .invokevirtual 863, 3), (82, .ifCond .eq 6, 3)]
set_option maxRecDepth 20000 in
theorem dn_419_0_1_ok : dn_419_0_1.all (fun q => decide (decode (xm_b n_419) q.1 = .ok (q.2.1, q.2.2))) = true := xa_g_ok (by decide +kernel)
def dn_419_0_2 : List (Nat × Instr × Nat) := [(85, .bipush (-3), 2), (87, .ireturn, 1), (88, .iconst 0, 1), (89, .istore_n 3, 1), (90, .iconst 0, 1), (91, .istore 4, 2), (93, .iload 4, 2), (95, .aload_n 0, 1), (96, .getfield 8, 3), (99, .iload_n 2, 1), (100, .iconst 3, 1), (101, .iadd, 1), (102, .iaload, 1), (103, .if_icmp .ge 61, 3), (106, .iload_n 3, 1), (107, .iload 4, 2), (109, .ifCond .eq 42, 3), (112, .aload_n 0, 1), (113, .getfield 8, 3), (116, .sipush 21060, 3), (119, .sipush 1000, 3), (122, .iload_n 1, 1), (123, .imul, 1), (124, .iadd, 1), (125, .iload 4, 2)]
set_option maxRecDepth 20000 in
theorem dn_419_0_2_ok : dn_419_0_2.all (fun q => decide (decode (xm_b n_419) q.1 = .ok (q.2.1, q.2.2))) = true := xa_g_ok (by decide +kernel)
def dn_419_0_3 : List (Nat × Instr × Nat) := [(127, .iadd, 1), (128, .iaload, 1), (129, .aload_n 0, 1), (130, .getfield 8, 3), (133, .sipush 21060, 3), (136, .sipush 1000, 3), (139, .iload_n 1, 1), (140, .imul, 1), (141, .iadd, 1), (142, .iload 4, 2), (144, .iadd, 1), (145, .iconst 1, 1), (146, .isub, 1), (147, .iaload, 1), (148, .if_icmp .eq 7, 3), (151, .iconst 1, 1), (152, .goto 4, 3), (155, .iconst 0, 1), (156, .iadd, 1), (157, .istore_n 3, 1), (158, .iinc 4 1, 3), (161, .goto (-68), 3), (164, .iload_n 3, 1), (165, .ifCond .le 28, 3), (168, .aload_n 0, 1)]
set_option maxRecDepth 20000 in
theorem dn_419_0_3_ok : dn_419_0_3.all (fun q => decide (decode (xm_b n_419) q.1 = .ok (q.2.1, q.2.2))) = true := xa_g_ok (by decide +kernel)
def dn_419_1_0 : List (Nat × Instr × Nat) := [(169, .getfield 8, 3), (172, .iload_n 2, 1), (173, .bipush 6, 2), (175, .iadd, 1), (176, .iconst 1, 1), (177, .iastore, 1), (178, .aload_n 0, 1), (179, .getfield 8, 3), (182, .iload_n 2, 1), (183, .bipush 7, 2), (185, .iadd, 1), (186, .iconst 0, 1), (187, .iastore, 1), (188, .aload_n 0, 1), (189, .iload_n 1, 1), (190, .invokevirtual 768, 3), (193, .aload_n 0, 1), (194, .bipush 11, 2), (196, .iload_n 1, 1), (197, .iconst 0, 1), (198, .iconst 0, 1), (199, .invokevirtual 866, 3), (202, .iload_n 3, 1), (203, .ireturn, 1)]
set_option maxRecDepth 20000 in
theorem dn_419_1_0_ok : dn_419_1_0.all (fun q => decide (decode (xm_b n_419) q.1 = .ok (q.2.1, q.2.2))) = true := xa_g_ok (by decide +kernel)
def te_419_0 : Nat → eE := (e_T 26 (e_T 10 (e_T 2 (e_T 0 (e_L 0 (0, ei_load 0 2 1, 0, 0)) (e_T 1 (e_L 1 (0, ei_load 1 0 2, 0, 0)) (e_L 2 (2, e_nof, 270, 2)))) (e_T 8 (e_T 5 (e_L 5 (0, ei_if1 1 10 8, 0, 0)) (e_L 8 (0, ei_push (0, (-1)) 9, 0, 0))) (e_T 9 (e_L 9 (1, e_nof, 1, 0)) (e_L 10 (0, ei_load 1 0 11, 0, 0))))) (e_T 16 (e_T 14 (e_T 11 (e_L 11 (2, e_nof, 268, 1)) (e_L 14 (0, ei_stor 2 0 15, 0, 0))) (e_T 15 (e_L 15 (0, ei_load 0 2 16, 0, 0)) (e_L 16 (0, ei_getf eft elay 12 3 19, 0, 0)))) (e_T 22 (e_T 19 (e_L 19 (0, ei_if1 0 75 22, 0, 0)) (e_L 22 (0, ei_load 0 2 23, 0, 0))) (e_T 23 (e_L 23 (0, ei_getf eft elay 12 0 26, 0, 0)) (e_L 26 (0, ei_load 2 0 27, 0, 0)))))) (e_T 38 (e_T 30 (e_T 28 (e_T 27 (e_L 27 (0, ei_push (0, 3) 28, 0, 0)) (e_L 28 (0, ei_bin eF_add 29, 0, 0))) (e_T 29 (e_L 29 (0, ei_ald elay false 30, 0, 0)) (e_L 30 (0, ei_if1 2 75 33, 0, 0)))) (e_T 34 (e_T 33 (e_L 33 (0, ei_load 0 2 34, 0, 0)) (e_L 34 (0, ei_getf eft elay 12 0 37, 0, 0))) (e_T 37 (e_L 37 (0, ei_load 2 0 38, 0, 0)) (e_L 38 (0, ei_push (0, 4) 39, 0, 0))))) (e_T 44 (e_T 40 (e_T 39 (e_L 39 (0, ei_bin eF_add 40, 0, 0)) (e_L 40 (0, ei_ald elay false 41, 0, 0))) (e_T 41 (e_L 41 (0, ei_if1 0 75 44, 0, 0)) (e_L 44 (0, ei_load 0 2 45, 0, 0)))) (e_T 48 (e_T 45 (e_L 45 (0, ei_getf eft elay 12 0 48, 0, 0)) (e_L 48 (0, ei_load 2 0 49, 0, 0))) (e_T 49 (e_L 49 (0, ei_push (0, 0) 50, 0, 0)) (e_L 50 (0, ei_bin eF_add 51, 0, 0)))))))
set_option maxRecDepth 20000 in
set_option maxHeartbeats 4000000 in
theorem te_419_0_ok : ∀ pc, e_EOq eft cls elay eI n_419 pc (te_419_0 pc) :=
  (e_Tok2
  (e_Tok2
  (e_Tok2
  (e_Tok2
  (e_Lok (ld_aload_n_0 (x_dk dn_419_0_0_ok 0 rfl)))
  (e_Tok2
  (e_Lok (ld_iload_n_1 (x_dk dn_419_0_0_ok 1 rfl)))
  (e_Lok (lk_12_305 ho_419 (x_dk dn_419_0_0_ok 2 rfl)))))
  (e_Tok2
  (e_Tok2
  (e_Lok (e_st (I := eI) (er_ifne (off := 5) (tg := 10) (x_dk dn_419_0_0_ok 3 rfl) (by decide)) nx_if1))
  (e_Lok (ps_iconst_m1 (x_dk dn_419_0_0_ok 4 rfl))))
  (e_Tok2
  (e_Lok (e_rt (I := eI) (k := 1) ⟨(x_dk dn_419_0_0_ok 5 rfl), rfl⟩))
  (e_Lok (ld_iload_n_1 (x_dk dn_419_0_0_ok 6 rfl))))))
  (e_Tok2
  (e_Tok2
  (e_Tok2
  (e_Lok (lk_12_294 ho_419 (x_dk dn_419_0_0_ok 7 rfl)))
  (e_Lok (e_st (I := eI) (er_istore_n (i := 2) (x_dk dn_419_0_0_ok 8 rfl) (by decide +kernel)) nx_stor)))
  (e_Tok2
  (e_Lok (ld_aload_n_0 (x_dk dn_419_0_0_ok 9 rfl)))
  (e_Lok (lk_12_265g ho_419 (x_dk dn_419_0_0_ok 10 rfl)))))
  (e_Tok2
  (e_Tok2
  (e_Lok (e_st (I := eI) (er_ifeq (off := 56) (tg := 75) (x_dk dn_419_0_0_ok 11 rfl) (by decide)) nx_if1))
  (e_Lok (ld_aload_n_0 (x_dk dn_419_0_0_ok 12 rfl))))
  (e_Tok2
  (e_Lok (lk_12_8g ho_419 (x_dk dn_419_0_0_ok 13 rfl)))
  (e_Lok (ld_iload_n_2 (x_dk dn_419_0_0_ok 14 rfl)))))))
  (e_Tok2
  (e_Tok2
  (e_Tok2
  (e_Tok2
  (e_Lok (ps_iconst_3 (x_dk dn_419_0_0_ok 15 rfl)))
  (e_Lok (sm_iadd (x_dk dn_419_0_0_ok 16 rfl))))
  (e_Tok2
  (e_Lok (sm_iaload (x_dk dn_419_0_0_ok 17 rfl)))
  (e_Lok (e_st (I := eI) (er_iflt (off := 45) (tg := 75) (x_dk dn_419_0_0_ok 18 rfl) (by decide)) nx_if1))))
  (e_Tok2
  (e_Tok2
  (e_Lok (ld_aload_n_0 (x_dk dn_419_0_0_ok 19 rfl)))
  (e_Lok (lk_12_8g ho_419 (x_dk dn_419_0_0_ok 20 rfl))))
  (e_Tok2
  (e_Lok (ld_iload_n_2 (x_dk dn_419_0_0_ok 21 rfl)))
  (e_Lok (ps_iconst_4 (x_dk dn_419_0_0_ok 22 rfl))))))
  (e_Tok2
  (e_Tok2
  (e_Tok2
  (e_Lok (sm_iadd (x_dk dn_419_0_0_ok 23 rfl)))
  (e_Lok (sm_iaload (x_dk dn_419_0_0_ok 24 rfl))))
  (e_Tok2
  (e_Lok (e_st (I := eI) (er_ifeq (off := 34) (tg := 75) (x_dk dn_419_0_1_ok 0 rfl) (by decide)) nx_if1))
  (e_Lok (ld_aload_n_0 (x_dk dn_419_0_1_ok 1 rfl)))))
  (e_Tok2
  (e_Tok2
  (e_Lok (lk_12_8g ho_419 (x_dk dn_419_0_1_ok 2 rfl)))
  (e_Lok (ld_iload_n_2 (x_dk dn_419_0_1_ok 3 rfl))))
  (e_Tok2
  (e_Lok (ps_iconst_0 (x_dk dn_419_0_1_ok 4 rfl)))
  (e_Lok (sm_iadd (x_dk dn_419_0_1_ok 5 rfl))))))))
def te_419_31 : Nat → eE := (e_T 75 (e_T 61 (e_T 55 (e_T 51 (e_L 51 (0, ei_ald elay false 52, 0, 0)) (e_T 52 (e_L 52 (0, ei_if1 1 75 55, 0, 0)) (e_L 55 (0, ei_load 0 2 56, 0, 0)))) (e_T 59 (e_T 56 (e_L 56 (0, ei_getf eft elay 12 0 59, 0, 0)) (e_L 59 (0, ei_load 2 0 60, 0, 0))) (e_T 60 (e_L 60 (0, ei_push (0, 2) 61, 0, 0)) (e_L 61 (0, ei_bin eF_add 62, 0, 0))))) (e_T 67 (e_T 63 (e_T 62 (e_L 62 (0, ei_ald elay false 63, 0, 0)) (e_L 63 (0, ei_if1 3 75 66, 0, 0))) (e_T 66 (e_L 66 (0, ei_load 0 2 67, 0, 0)) (e_L 67 (0, ei_getf eft elay 12 0 70, 0, 0)))) (e_T 71 (e_T 70 (e_L 70 (0, ei_push (0, 1) 71, 0, 0)) (e_L 71 (0, ei_ald elay false 72, 0, 0))) (e_T 72 (e_L 72 (0, ei_if1 1 78 75, 0, 0)) (e_L 75 (0, ei_push (0, (-2)) 77, 0, 0)))))) (e_T 89 (e_T 82 (e_T 78 (e_T 77 (e_L 77 (1, e_nof, 1, 0)) (e_L 78 (0, ei_load 0 2 79, 0, 0))) (e_T 79 (e_L 79 (2, e_nof, 422, 1)) (e_L 82 (0, ei_if1 0 88 85, 0, 0)))) (e_T 87 (e_T 85 (e_L 85 (0, ei_push (0, (-3)) 87, 0, 0)) (e_L 87 (1, e_nof, 1, 0))) (e_T 88 (e_L 88 (0, ei_push (0, 0) 89, 0, 0)) (e_L 89 (0, ei_stor 3 0 90, 0, 0))))) (e_T 95 (e_T 91 (e_T 90 (e_L 90 (0, ei_push (0, 0) 91, 0, 0)) (e_L 91 (0, ei_stor 4 0 93, 0, 0))) (e_T 93 (e_L 93 (0, ei_load 4 0 95, 0, 0)) (e_L 95 (0, ei_load 0 2 96, 0, 0)))) (e_T 99 (e_T 96 (e_L 96 (0, ei_getf eft elay 12 0 99, 0, 0)) (e_L 99 (0, ei_load 2 0 100, 0, 0))) (e_T 100 (e_L 100 (0, ei_push (0, 3) 101, 0, 0)) (e_L 101 (0, ei_bin eF_add 102, 0, 0)))))))
set_option maxRecDepth 20000 in
set_option maxHeartbeats 4000000 in
theorem te_419_31_ok : ∀ pc, e_EOq eft cls elay eI n_419 pc (te_419_31 pc) :=
  (e_Tok2
  (e_Tok2
  (e_Tok2
  (e_Tok2
  (e_Lok (sm_iaload (x_dk dn_419_0_1_ok 6 rfl)))
  (e_Tok2
  (e_Lok (e_st (I := eI) (er_ifne (off := 23) (tg := 75) (x_dk dn_419_0_1_ok 7 rfl) (by decide)) nx_if1))
  (e_Lok (ld_aload_n_0 (x_dk dn_419_0_1_ok 8 rfl)))))
  (e_Tok2
  (e_Tok2
  (e_Lok (lk_12_8g ho_419 (x_dk dn_419_0_1_ok 9 rfl)))
  (e_Lok (ld_iload_n_2 (x_dk dn_419_0_1_ok 10 rfl))))
  (e_Tok2
  (e_Lok (ps_iconst_2 (x_dk dn_419_0_1_ok 11 rfl)))
  (e_Lok (sm_iadd (x_dk dn_419_0_1_ok 12 rfl))))))
  (e_Tok2
  (e_Tok2
  (e_Tok2
  (e_Lok (sm_iaload (x_dk dn_419_0_1_ok 13 rfl)))
  (e_Lok (e_st (I := eI) (er_ifge (off := 12) (tg := 75) (x_dk dn_419_0_1_ok 14 rfl) (by decide)) nx_if1)))
  (e_Tok2
  (e_Lok (ld_aload_n_0 (x_dk dn_419_0_1_ok 15 rfl)))
  (e_Lok (lk_12_8g ho_419 (x_dk dn_419_0_1_ok 16 rfl)))))
  (e_Tok2
  (e_Tok2
  (e_Lok (ps_iconst_1 (x_dk dn_419_0_1_ok 17 rfl)))
  (e_Lok (sm_iaload (x_dk dn_419_0_1_ok 18 rfl))))
  (e_Tok2
  (e_Lok (e_st (I := eI) (er_ifne (off := 6) (tg := 78) (x_dk dn_419_0_1_ok 19 rfl) (by decide)) nx_if1))
  (e_Lok (ps_bipush_m2 (x_dk dn_419_0_1_ok 20 rfl)))))))
  (e_Tok2
  (e_Tok2
  (e_Tok2
  (e_Tok2
  (e_Lok (e_rt (I := eI) (k := 1) ⟨(x_dk dn_419_0_1_ok 21 rfl), rfl⟩))
  (e_Lok (ld_aload_n_0 (x_dk dn_419_0_1_ok 22 rfl))))
  (e_Tok2
  (e_Lok (lk_12_863 ho_419 (x_dk dn_419_0_1_ok 23 rfl)))
  (e_Lok (e_st (I := eI) (er_ifeq (off := 6) (tg := 88) (x_dk dn_419_0_1_ok 24 rfl) (by decide)) nx_if1))))
  (e_Tok2
  (e_Tok2
  (e_Lok (ps_bipush_m3 (x_dk dn_419_0_2_ok 0 rfl)))
  (e_Lok (e_rt (I := eI) (k := 1) ⟨(x_dk dn_419_0_2_ok 1 rfl), rfl⟩)))
  (e_Tok2
  (e_Lok (ps_iconst_0 (x_dk dn_419_0_2_ok 2 rfl)))
  (e_Lok (e_st (I := eI) (er_istore_n (i := 3) (x_dk dn_419_0_2_ok 3 rfl) (by decide +kernel)) nx_stor)))))
  (e_Tok2
  (e_Tok2
  (e_Tok2
  (e_Lok (ps_iconst_0 (x_dk dn_419_0_2_ok 4 rfl)))
  (e_Lok (e_st (I := eI) (er_istore (i := 4) (x_dk dn_419_0_2_ok 5 rfl) (by decide +kernel)) nx_stor)))
  (e_Tok2
  (e_Lok (ld_iload_4 (x_dk dn_419_0_2_ok 6 rfl)))
  (e_Lok (ld_aload_n_0 (x_dk dn_419_0_2_ok 7 rfl)))))
  (e_Tok2
  (e_Tok2
  (e_Lok (lk_12_8g ho_419 (x_dk dn_419_0_2_ok 8 rfl)))
  (e_Lok (ld_iload_n_2 (x_dk dn_419_0_2_ok 9 rfl))))
  (e_Tok2
  (e_Lok (ps_iconst_3 (x_dk dn_419_0_2_ok 10 rfl)))
  (e_Lok (sm_iadd (x_dk dn_419_0_2_ok 11 rfl))))))))
def te_419_62 : Nat → eE := (e_T 128 (e_T 113 (e_T 106 (e_T 102 (e_L 102 (0, ei_ald elay false 103, 0, 0)) (e_T 103 (e_L 103 (0, ei_if2 3 164 106, 0, 0)) (e_L 106 (0, ei_load 3 0 107, 0, 0)))) (e_T 109 (e_T 107 (e_L 107 (0, ei_load 4 0 109, 0, 0)) (e_L 109 (0, ei_if1 0 151 112, 0, 0))) (e_T 112 (e_L 112 (0, ei_load 0 2 113, 0, 0)) (e_L 113 (0, ei_getf eft elay 12 0 116, 0, 0))))) (e_T 123 (e_T 119 (e_T 116 (e_L 116 (0, ei_push (0, 21060) 119, 0, 0)) (e_L 119 (0, ei_push (0, 1000) 122, 0, 0))) (e_T 122 (e_L 122 (0, ei_load 1 0 123, 0, 0)) (e_L 123 (0, ei_bin eF_mul 124, 0, 0)))) (e_T 125 (e_T 124 (e_L 124 (0, ei_bin eF_add 125, 0, 0)) (e_L 125 (0, ei_load 4 0 127, 0, 0))) (e_T 127 (e_L 127 (0, ei_bin eF_add 128, 0, 0)) (e_L 128 (0, ei_ald elay false 129, 0, 0)))))) (e_T 142 (e_T 136 (e_T 130 (e_T 129 (e_L 129 (0, ei_load 0 2 130, 0, 0)) (e_L 130 (0, ei_getf eft elay 12 0 133, 0, 0))) (e_T 133 (e_L 133 (0, ei_push (0, 21060) 136, 0, 0)) (e_L 136 (0, ei_push (0, 1000) 139, 0, 0)))) (e_T 140 (e_T 139 (e_L 139 (0, ei_load 1 0 140, 0, 0)) (e_L 140 (0, ei_bin eF_mul 141, 0, 0))) (e_T 141 (e_L 141 (0, ei_bin eF_add 142, 0, 0)) (e_L 142 (0, ei_load 4 0 144, 0, 0))))) (e_T 147 (e_T 145 (e_T 144 (e_L 144 (0, ei_bin eF_add 145, 0, 0)) (e_L 145 (0, ei_push (0, 1) 146, 0, 0))) (e_T 146 (e_L 146 (0, ei_bin eF_sub 147, 0, 0)) (e_L 147 (0, ei_ald elay false 148, 0, 0)))) (e_T 151 (e_T 148 (e_L 148 (0, ei_if2 0 155 151, 0, 0)) (e_L 151 (0, ei_push (0, 1) 152, 0, 0))) (e_T 152 (e_L 152 (0, ei_goto 156, 0, 0)) (e_L 155 (0, ei_push (0, 0) 156, 0, 0)))))))
set_option maxRecDepth 20000 in
set_option maxHeartbeats 4000000 in
theorem te_419_62_ok : ∀ pc, e_EOq eft cls elay eI n_419 pc (te_419_62 pc) :=
  (e_Tok2
  (e_Tok2
  (e_Tok2
  (e_Tok2
  (e_Lok (sm_iaload (x_dk dn_419_0_2_ok 12 rfl)))
  (e_Tok2
  (e_Lok (e_st (I := eI) (er_icmpge (off := 61) (tg := 164) (x_dk dn_419_0_2_ok 13 rfl) (by decide)) nx_if2))
  (e_Lok (ld_iload_n_3 (x_dk dn_419_0_2_ok 14 rfl)))))
  (e_Tok2
  (e_Tok2
  (e_Lok (ld_iload_4 (x_dk dn_419_0_2_ok 15 rfl)))
  (e_Lok (e_st (I := eI) (er_ifeq (off := 42) (tg := 151) (x_dk dn_419_0_2_ok 16 rfl) (by decide)) nx_if1)))
  (e_Tok2
  (e_Lok (ld_aload_n_0 (x_dk dn_419_0_2_ok 17 rfl)))
  (e_Lok (lk_12_8g ho_419 (x_dk dn_419_0_2_ok 18 rfl))))))
  (e_Tok2
  (e_Tok2
  (e_Tok2
  (e_Lok (ps_sipush_21060 (x_dk dn_419_0_2_ok 19 rfl)))
  (e_Lok (ps_sipush_1000 (x_dk dn_419_0_2_ok 20 rfl))))
  (e_Tok2
  (e_Lok (ld_iload_n_1 (x_dk dn_419_0_2_ok 21 rfl)))
  (e_Lok (sm_imul (x_dk dn_419_0_2_ok 22 rfl)))))
  (e_Tok2
  (e_Tok2
  (e_Lok (sm_iadd (x_dk dn_419_0_2_ok 23 rfl)))
  (e_Lok (ld_iload_4 (x_dk dn_419_0_2_ok 24 rfl))))
  (e_Tok2
  (e_Lok (sm_iadd (x_dk dn_419_0_3_ok 0 rfl)))
  (e_Lok (sm_iaload (x_dk dn_419_0_3_ok 1 rfl)))))))
  (e_Tok2
  (e_Tok2
  (e_Tok2
  (e_Tok2
  (e_Lok (ld_aload_n_0 (x_dk dn_419_0_3_ok 2 rfl)))
  (e_Lok (lk_12_8g ho_419 (x_dk dn_419_0_3_ok 3 rfl))))
  (e_Tok2
  (e_Lok (ps_sipush_21060 (x_dk dn_419_0_3_ok 4 rfl)))
  (e_Lok (ps_sipush_1000 (x_dk dn_419_0_3_ok 5 rfl)))))
  (e_Tok2
  (e_Tok2
  (e_Lok (ld_iload_n_1 (x_dk dn_419_0_3_ok 6 rfl)))
  (e_Lok (sm_imul (x_dk dn_419_0_3_ok 7 rfl))))
  (e_Tok2
  (e_Lok (sm_iadd (x_dk dn_419_0_3_ok 8 rfl)))
  (e_Lok (ld_iload_4 (x_dk dn_419_0_3_ok 9 rfl))))))
  (e_Tok2
  (e_Tok2
  (e_Tok2
  (e_Lok (sm_iadd (x_dk dn_419_0_3_ok 10 rfl)))
  (e_Lok (ps_iconst_1 (x_dk dn_419_0_3_ok 11 rfl))))
  (e_Tok2
  (e_Lok (sm_isub (x_dk dn_419_0_3_ok 12 rfl)))
  (e_Lok (sm_iaload (x_dk dn_419_0_3_ok 13 rfl)))))
  (e_Tok2
  (e_Tok2
  (e_Lok (e_st (I := eI) (er_icmpeq (off := 7) (tg := 155) (x_dk dn_419_0_3_ok 14 rfl) (by decide)) nx_if2))
  (e_Lok (ps_iconst_1 (x_dk dn_419_0_3_ok 15 rfl))))
  (e_Tok2
  (e_Lok (e_st (I := eI) (er_goto (off := 4) (tg := 156) (x_dk dn_419_0_3_ok 16 rfl) (by decide)) nx_goto))
  (e_Lok (ps_iconst_0 (x_dk dn_419_0_3_ok 17 rfl))))))))
def te_419_93 : Nat → eE := (e_T 179 (e_T 168 (e_T 158 (e_T 156 (e_L 156 (0, ei_bin eF_add 157, 0, 0)) (e_T 157 (e_L 157 (0, ei_stor 3 0 158, 0, 0)) (e_L 158 (0, ei_inc 4 1 161, 0, 0)))) (e_T 164 (e_T 161 (e_L 161 (0, ei_goto 93, 0, 0)) (e_L 164 (0, ei_load 3 0 165, 0, 0))) (e_T 165 (e_L 165 (0, ei_if1 5 193 168, 0, 0)) (e_L 168 (0, ei_load 0 2 169, 0, 0))))) (e_T 175 (e_T 172 (e_T 169 (e_L 169 (0, ei_getf eft elay 12 0 172, 0, 0)) (e_L 172 (0, ei_load 2 0 173, 0, 0))) (e_T 173 (e_L 173 (0, ei_push (0, 6) 175, 0, 0)) (e_L 175 (0, ei_bin eF_add 176, 0, 0)))) (e_T 177 (e_T 176 (e_L 176 (0, ei_push (0, 1) 177, 0, 0)) (e_L 177 (0, ei_ast elay false 178, 0, 0))) (e_T 178 (e_L 178 (0, ei_load 0 2 179, 0, 0)) (e_L 179 (0, ei_getf eft elay 12 0 182, 0, 0)))))) (e_T 190 (e_T 186 (e_T 183 (e_T 182 (e_L 182 (0, ei_load 2 0 183, 0, 0)) (e_L 183 (0, ei_push (0, 7) 185, 0, 0))) (e_T 185 (e_L 185 (0, ei_bin eF_add 186, 0, 0)) (e_L 186 (0, ei_push (0, 0) 187, 0, 0)))) (e_T 188 (e_T 187 (e_L 187 (0, ei_ast elay false 188, 0, 0)) (e_L 188 (0, ei_load 0 2 189, 0, 0))) (e_T 189 (e_L 189 (0, ei_load 1 0 190, 0, 0)) (e_L 190 (2, e_nof, 391, 2))))) (e_T 197 (e_T 194 (e_T 193 (e_L 193 (0, ei_load 0 2 194, 0, 0)) (e_L 194 (0, ei_push (0, 11) 196, 0, 0))) (e_T 196 (e_L 196 (0, ei_load 1 0 197, 0, 0)) (e_L 197 (0, ei_push (0, 0) 198, 0, 0)))) (e_T 199 (e_T 198 (e_L 198 (0, ei_push (0, 0) 199, 0, 0)) (e_L 199 (2, e_nof, 423, 5))) (e_T 202 (e_L 202 (0, ei_load 3 0 203, 0, 0)) (e_L 203 (1, e_nof, 1, 0)))))))
set_option maxRecDepth 20000 in
set_option maxHeartbeats 4000000 in
theorem te_419_93_ok : ∀ pc, e_EOq eft cls elay eI n_419 pc (te_419_93 pc) :=
  (e_Tok2
  (e_Tok2
  (e_Tok2
  (e_Tok2
  (e_Lok (sm_iadd (x_dk dn_419_0_3_ok 18 rfl)))
  (e_Tok2
  (e_Lok (e_st (I := eI) (er_istore_n (i := 3) (x_dk dn_419_0_3_ok 19 rfl) (by decide +kernel)) nx_stor))
  (e_Lok (e_st (I := eI) (er_iinc (i := 4) (n := 1) (x_dk dn_419_0_3_ok 20 rfl) (by decide +kernel) (by decide)) nx_inc))))
  (e_Tok2
  (e_Tok2
  (e_Lok (e_st (I := eI) (er_goto (off := (-68)) (tg := 93) (x_dk dn_419_0_3_ok 21 rfl) (by decide)) nx_goto))
  (e_Lok (ld_iload_n_3 (x_dk dn_419_0_3_ok 22 rfl))))
  (e_Tok2
  (e_Lok (e_st (I := eI) (er_ifle (off := 28) (tg := 193) (x_dk dn_419_0_3_ok 23 rfl) (by decide)) nx_if1))
  (e_Lok (ld_aload_n_0 (x_dk dn_419_0_3_ok 24 rfl))))))
  (e_Tok2
  (e_Tok2
  (e_Tok2
  (e_Lok (lk_12_8g ho_419 (x_dk dn_419_1_0_ok 0 rfl)))
  (e_Lok (ld_iload_n_2 (x_dk dn_419_1_0_ok 1 rfl))))
  (e_Tok2
  (e_Lok (ps_bipush_6 (x_dk dn_419_1_0_ok 2 rfl)))
  (e_Lok (sm_iadd (x_dk dn_419_1_0_ok 3 rfl)))))
  (e_Tok2
  (e_Tok2
  (e_Lok (ps_iconst_1 (x_dk dn_419_1_0_ok 4 rfl)))
  (e_Lok (sm_iastore (x_dk dn_419_1_0_ok 5 rfl))))
  (e_Tok2
  (e_Lok (ld_aload_n_0 (x_dk dn_419_1_0_ok 6 rfl)))
  (e_Lok (lk_12_8g ho_419 (x_dk dn_419_1_0_ok 7 rfl)))))))
  (e_Tok2
  (e_Tok2
  (e_Tok2
  (e_Tok2
  (e_Lok (ld_iload_n_2 (x_dk dn_419_1_0_ok 8 rfl)))
  (e_Lok (ps_bipush_7 (x_dk dn_419_1_0_ok 9 rfl))))
  (e_Tok2
  (e_Lok (sm_iadd (x_dk dn_419_1_0_ok 10 rfl)))
  (e_Lok (ps_iconst_0 (x_dk dn_419_1_0_ok 11 rfl)))))
  (e_Tok2
  (e_Tok2
  (e_Lok (sm_iastore (x_dk dn_419_1_0_ok 12 rfl)))
  (e_Lok (ld_aload_n_0 (x_dk dn_419_1_0_ok 13 rfl))))
  (e_Tok2
  (e_Lok (ld_iload_n_1 (x_dk dn_419_1_0_ok 14 rfl)))
  (e_Lok (lk_12_768 ho_419 (x_dk dn_419_1_0_ok 15 rfl))))))
  (e_Tok2
  (e_Tok2
  (e_Tok2
  (e_Lok (ld_aload_n_0 (x_dk dn_419_1_0_ok 16 rfl)))
  (e_Lok (ps_bipush_11 (x_dk dn_419_1_0_ok 17 rfl))))
  (e_Tok2
  (e_Lok (ld_iload_n_1 (x_dk dn_419_1_0_ok 18 rfl)))
  (e_Lok (ps_iconst_0 (x_dk dn_419_1_0_ok 19 rfl)))))
  (e_Tok2
  (e_Tok2
  (e_Lok (ps_iconst_0 (x_dk dn_419_1_0_ok 20 rfl)))
  (e_Lok (lk_12_866 ho_419 (x_dk dn_419_1_0_ok 21 rfl))))
  (e_Tok2
  (e_Lok (ld_iload_n_3 (x_dk dn_419_1_0_ok 22 rfl)))
  (e_Lok (e_rt (I := eI) (k := 1) ⟨(x_dk dn_419_1_0_ok 23 rfl), rfl⟩)))))))
def te_419 : Nat → eE := (e_T 101 (e_T 50 te_419_0 te_419_31) (e_T 155 te_419_62 te_419_93))
theorem te_419_ok : ∀ pc, e_EOq eft cls elay eI n_419 pc (te_419 pc) := (e_Tok2 ((e_Tok2 (te_419_0_ok) (te_419_31_ok))) ((e_Tok2 (te_419_62_ok) (te_419_93_ok))))
theorem ho_420 : (xm_y n_420).cls = "RobotCellHouseModel" := rfl
def dn_420_0_0 : List (Nat × Instr × Nat) := [(0, .aload_n 0, 1), (1, .getfield 288, 3), (4, .ifCond .ne 7, 3), (7, .iconst 0, 1), (8, .goto 14, 3), (11, .aload_n 0, 1), (12, .getfield 256, 3), (15, .aload_n 0, 1), (16, .getfield 288, 3), (19, .iconst 1, 1), (20, .isub, 1), (21, .iaload, 1), (22, .istore_n 3, 1), (23, .iload_n 2, 1), (24, .ifCond .eq 15, 3), (27, .iload_n 3, 1), (28, .iload_n 1, 1), (29, .iadd, 1), (30, .ldc 249, 2), (32, .if_icmp .gt 7, 3), (35, .iconst 1, 1), (36, .goto 4, 3), (39, .iconst 0, 1), (40, .istore 4, 2), (42, .iconst 0, 1)]
set_option maxRecDepth 20000 in
theorem dn_420_0_0_ok : dn_420_0_0.all (fun q => decide (decode (xm_b n_420) q.1 = .ok (q.2.1, q.2.2))) = true := xa_g_ok (by decide +kernel)
def dn_420_0_1 : List (Nat × Instr × Nat) := [(43, .istore 5, 2), (45, .iload 5, 2), (47, .iload_n 1, 1), (48, .if_icmp .ge 30, 3), (51, .iload 4, 2), (53, .ifCond .eq 25, 3), (56, .aload_n 0, 1), (57, .getfield 250, 3), (60, .iload_n 3, 1), (61, .iload 5, 2), (63, .iadd, 1), (64, .aload_n 0, 1), (65, .getfield 246, 3), (68, .iload 5, 2), (70, .iaload, 1), (71, .iastore, 1), (72, .iinc 5 1, 3), (75, .goto (-30), 3), (78, .aload_n 0, 1), (79, .getfield 253, 3), (82, .aload_n 0, 1), (83, .getfield 288, 3), (86, .iload 4, 2), (88, .ifCond .eq 7, 3), (91, .iload_n 3, 1)]
set_option maxRecDepth 20000 in
theorem dn_420_0_1_ok : dn_420_0_1.all (fun q => decide (decode (xm_b n_420) q.1 = .ok (q.2.1, q.2.2))) = true := xa_g_ok (by decide +kernel)
def dn_420_0_2 : List (Nat × Instr × Nat) := [(92, .goto 4, 3), (95, .iconst (-1), 1), (96, .iastore, 1), (97, .aload_n 0, 1), (98, .getfield 256, 3), (101, .aload_n 0, 1), (102, .getfield 288, 3), (105, .iload 4, 2), (107, .ifCond .eq 9, 3), (110, .iload_n 3, 1), (111, .iload_n 1, 1), (112, .iadd, 1), (113, .goto 4, 3), (116, .iload_n 3, 1), (117, .iastore, 1), (118, .return_, 1)]
set_option maxRecDepth 20000 in
theorem dn_420_0_2_ok : dn_420_0_2.all (fun q => decide (decode (xm_b n_420) q.1 = .ok (q.2.1, q.2.2))) = true := xa_g_ok (by decide +kernel)
def te_420_0 : Nat → eE := (e_T 27 (e_T 15 (e_T 7 (e_T 1 (e_T 0 (e_L 0 (0, ei_load 0 2 1, 0, 0)) (e_L 1 (0, ei_getf eft elay 12 5 4, 0, 0))) (e_T 4 (e_L 4 (0, ei_if1 1 11 7, 0, 0)) (e_L 7 (0, ei_push (0, 0) 8, 0, 0)))) (e_T 11 (e_T 8 (e_L 8 (0, ei_goto 22, 0, 0)) (e_L 11 (0, ei_load 0 2 12, 0, 0))) (e_T 12 (e_L 12 (0, ei_getf eft elay 12 116 15, 0, 0)) (e_L 15 (0, ei_load 0 2 16, 0, 0))))) (e_T 21 (e_T 19 (e_T 16 (e_L 16 (0, ei_getf eft elay 12 5 19, 0, 0)) (e_L 19 (0, ei_push (0, 1) 20, 0, 0))) (e_T 20 (e_L 20 (0, ei_bin eF_sub 21, 0, 0)) (e_L 21 (0, ei_ald elay false 22, 0, 0)))) (e_T 23 (e_T 22 (e_L 22 (0, ei_stor 3 0 23, 0, 0)) (e_L 23 (0, ei_load 2 0 24, 0, 0))) (e_T 24 (e_L 24 (0, ei_if1 0 39 27, 0, 0)) (e_L 27 (0, ei_load 3 0 28, 0, 0)))))) (e_T 40 (e_T 32 (e_T 29 (e_T 28 (e_L 28 (0, ei_load 1 0 29, 0, 0)) (e_L 29 (0, ei_bin eF_add 30, 0, 0))) (e_T 30 (e_L 30 (0, ei_push (0, 200000) 32, 0, 0)) (e_L 32 (0, ei_if2 4 39 35, 0, 0)))) (e_T 36 (e_T 35 (e_L 35 (0, ei_push (0, 1) 36, 0, 0)) (e_L 36 (0, ei_goto 40, 0, 0))) (e_T 39 (e_L 39 (0, ei_push (0, 0) 40, 0, 0)) (e_L 40 (0, ei_stor 4 0 42, 0, 0))))) (e_T 47 (e_T 43 (e_T 42 (e_L 42 (0, ei_push (0, 0) 43, 0, 0)) (e_L 43 (0, ei_stor 5 0 45, 0, 0))) (e_T 45 (e_L 45 (0, ei_load 5 0 47, 0, 0)) (e_L 47 (0, ei_load 1 0 48, 0, 0)))) (e_T 51 (e_T 48 (e_L 48 (0, ei_if2 3 78 51, 0, 0)) (e_L 51 (0, ei_load 4 0 53, 0, 0))) (e_T 53 (e_L 53 (0, ei_if1 0 78 56, 0, 0)) (e_T 56 (e_L 56 (0, ei_load 0 2 57, 0, 0)) (e_L 57 (0, ei_getf eft elay 12 114 60, 0, 0))))))))
set_option maxRecDepth 20000 in
set_option maxHeartbeats 4000000 in
theorem te_420_0_ok : ∀ pc, e_EOq eft cls elay eI n_420 pc (te_420_0 pc) :=
  (e_Tok2
  (e_Tok2
  (e_Tok2
  (e_Tok2
  (e_Tok2
  (e_Lok (ld_aload_n_0 (x_dk dn_420_0_0_ok 0 rfl)))
  (e_Lok (lk_12_288g ho_420 (x_dk dn_420_0_0_ok 1 rfl))))
  (e_Tok2
  (e_Lok (e_st (I := eI) (er_ifne (off := 7) (tg := 11) (x_dk dn_420_0_0_ok 2 rfl) (by decide)) nx_if1))
  (e_Lok (ps_iconst_0 (x_dk dn_420_0_0_ok 3 rfl)))))
  (e_Tok2
  (e_Tok2
  (e_Lok (e_st (I := eI) (er_goto (off := 14) (tg := 22) (x_dk dn_420_0_0_ok 4 rfl) (by decide)) nx_goto))
  (e_Lok (ld_aload_n_0 (x_dk dn_420_0_0_ok 5 rfl))))
  (e_Tok2
  (e_Lok (lk_12_256g ho_420 (x_dk dn_420_0_0_ok 6 rfl)))
  (e_Lok (ld_aload_n_0 (x_dk dn_420_0_0_ok 7 rfl))))))
  (e_Tok2
  (e_Tok2
  (e_Tok2
  (e_Lok (lk_12_288g ho_420 (x_dk dn_420_0_0_ok 8 rfl)))
  (e_Lok (ps_iconst_1 (x_dk dn_420_0_0_ok 9 rfl))))
  (e_Tok2
  (e_Lok (sm_isub (x_dk dn_420_0_0_ok 10 rfl)))
  (e_Lok (sm_iaload (x_dk dn_420_0_0_ok 11 rfl)))))
  (e_Tok2
  (e_Tok2
  (e_Lok (e_st (I := eI) (er_istore_n (i := 3) (x_dk dn_420_0_0_ok 12 rfl) (by decide +kernel)) nx_stor))
  (e_Lok (ld_iload_n_2 (x_dk dn_420_0_0_ok 13 rfl))))
  (e_Tok2
  (e_Lok (e_st (I := eI) (er_ifeq (off := 15) (tg := 39) (x_dk dn_420_0_0_ok 14 rfl) (by decide)) nx_if1))
  (e_Lok (ld_iload_n_3 (x_dk dn_420_0_0_ok 15 rfl)))))))
  (e_Tok2
  (e_Tok2
  (e_Tok2
  (e_Tok2
  (e_Lok (ld_iload_n_1 (x_dk dn_420_0_0_ok 16 rfl)))
  (e_Lok (sm_iadd (x_dk dn_420_0_0_ok 17 rfl))))
  (e_Tok2
  (e_Lok (e_st (I := eI) (er_ldc (ix := 249) (z := 200000) (v := 200000) (x_dk dn_420_0_0_ok 18 rfl) (in_t9 (List.mem_of_getElem? (i := 89) rfl) rfl) (by decide)) (nx_push (Or.inl rfl))))
  (e_Lok (e_st (I := eI) (er_icmpgt (off := 7) (tg := 39) (x_dk dn_420_0_0_ok 19 rfl) (by decide)) nx_if2))))
  (e_Tok2
  (e_Tok2
  (e_Lok (ps_iconst_1 (x_dk dn_420_0_0_ok 20 rfl)))
  (e_Lok (e_st (I := eI) (er_goto (off := 4) (tg := 40) (x_dk dn_420_0_0_ok 21 rfl) (by decide)) nx_goto)))
  (e_Tok2
  (e_Lok (ps_iconst_0 (x_dk dn_420_0_0_ok 22 rfl)))
  (e_Lok (e_st (I := eI) (er_istore (i := 4) (x_dk dn_420_0_0_ok 23 rfl) (by decide +kernel)) nx_stor)))))
  (e_Tok2
  (e_Tok2
  (e_Tok2
  (e_Lok (ps_iconst_0 (x_dk dn_420_0_0_ok 24 rfl)))
  (e_Lok (e_st (I := eI) (er_istore (i := 5) (x_dk dn_420_0_1_ok 0 rfl) (by decide +kernel)) nx_stor)))
  (e_Tok2
  (e_Lok (ld_iload_5 (x_dk dn_420_0_1_ok 1 rfl)))
  (e_Lok (ld_iload_n_1 (x_dk dn_420_0_1_ok 2 rfl)))))
  (e_Tok2
  (e_Tok2
  (e_Lok (e_st (I := eI) (er_icmpge (off := 30) (tg := 78) (x_dk dn_420_0_1_ok 3 rfl) (by decide)) nx_if2))
  (e_Lok (ld_iload_4 (x_dk dn_420_0_1_ok 4 rfl))))
  (e_Tok2
  (e_Lok (e_st (I := eI) (er_ifeq (off := 25) (tg := 78) (x_dk dn_420_0_1_ok 5 rfl) (by decide)) nx_if1))
  (e_Tok2
  (e_Lok (ld_aload_n_0 (x_dk dn_420_0_1_ok 6 rfl)))
  (e_Lok (lk_12_250g ho_420 (x_dk dn_420_0_1_ok 7 rfl)))))))))
def te_420_33 : Nat → eE := (e_T 88 (e_T 71 (e_T 64 (e_T 61 (e_T 60 (e_L 60 (0, ei_load 3 0 61, 0, 0)) (e_L 61 (0, ei_load 5 0 63, 0, 0))) (e_T 63 (e_L 63 (0, ei_bin eF_add 64, 0, 0)) (e_L 64 (0, ei_load 0 2 65, 0, 0)))) (e_T 68 (e_T 65 (e_L 65 (0, ei_getf eft elay 12 113 68, 0, 0)) (e_L 68 (0, ei_load 5 0 70, 0, 0))) (e_T 70 (e_L 70 (0, ei_ald elay false 71, 0, 0)) (e_L 71 (0, ei_ast elay false 72, 0, 0))))) (e_T 79 (e_T 75 (e_T 72 (e_L 72 (0, ei_inc 5 1 75, 0, 0)) (e_L 75 (0, ei_goto 45, 0, 0))) (e_T 78 (e_L 78 (0, ei_load 0 2 79, 0, 0)) (e_L 79 (0, ei_getf eft elay 12 115 82, 0, 0)))) (e_T 83 (e_T 82 (e_L 82 (0, ei_load 0 2 83, 0, 0)) (e_L 83 (0, ei_getf eft elay 12 5 86, 0, 0))) (e_T 86 (e_L 86 (0, ei_load 4 0 88, 0, 0)) (e_L 88 (0, ei_if1 0 95 91, 0, 0)))))) (e_T 102 (e_T 96 (e_T 92 (e_T 91 (e_L 91 (0, ei_load 3 0 92, 0, 0)) (e_L 92 (0, ei_goto 96, 0, 0))) (e_T 95 (e_L 95 (0, ei_push (0, (-1)) 96, 0, 0)) (e_L 96 (0, ei_ast elay false 97, 0, 0)))) (e_T 98 (e_T 97 (e_L 97 (0, ei_load 0 2 98, 0, 0)) (e_L 98 (0, ei_getf eft elay 12 116 101, 0, 0))) (e_T 101 (e_L 101 (0, ei_load 0 2 102, 0, 0)) (e_L 102 (0, ei_getf eft elay 12 5 105, 0, 0))))) (e_T 111 (e_T 107 (e_T 105 (e_L 105 (0, ei_load 4 0 107, 0, 0)) (e_L 107 (0, ei_if1 0 116 110, 0, 0))) (e_T 110 (e_L 110 (0, ei_load 3 0 111, 0, 0)) (e_L 111 (0, ei_load 1 0 112, 0, 0)))) (e_T 113 (e_T 112 (e_L 112 (0, ei_bin eF_add 113, 0, 0)) (e_L 113 (0, ei_goto 117, 0, 0))) (e_T 116 (e_L 116 (0, ei_load 3 0 117, 0, 0)) (e_T 117 (e_L 117 (0, ei_ast elay false 118, 0, 0)) (e_L 118 (1, e_nof, 0, 0))))))))
set_option maxRecDepth 20000 in
set_option maxHeartbeats 4000000 in
theorem te_420_33_ok : ∀ pc, e_EOq eft cls elay eI n_420 pc (te_420_33 pc) :=
  (e_Tok2
  (e_Tok2
  (e_Tok2
  (e_Tok2
  (e_Tok2
  (e_Lok (ld_iload_n_3 (x_dk dn_420_0_1_ok 8 rfl)))
  (e_Lok (ld_iload_5 (x_dk dn_420_0_1_ok 9 rfl))))
  (e_Tok2
  (e_Lok (sm_iadd (x_dk dn_420_0_1_ok 10 rfl)))
  (e_Lok (ld_aload_n_0 (x_dk dn_420_0_1_ok 11 rfl)))))
  (e_Tok2
  (e_Tok2
  (e_Lok (lk_12_246g ho_420 (x_dk dn_420_0_1_ok 12 rfl)))
  (e_Lok (ld_iload_5 (x_dk dn_420_0_1_ok 13 rfl))))
  (e_Tok2
  (e_Lok (sm_iaload (x_dk dn_420_0_1_ok 14 rfl)))
  (e_Lok (sm_iastore (x_dk dn_420_0_1_ok 15 rfl))))))
  (e_Tok2
  (e_Tok2
  (e_Tok2
  (e_Lok (e_st (I := eI) (er_iinc (i := 5) (n := 1) (x_dk dn_420_0_1_ok 16 rfl) (by decide +kernel) (by decide)) nx_inc))
  (e_Lok (e_st (I := eI) (er_goto (off := (-30)) (tg := 45) (x_dk dn_420_0_1_ok 17 rfl) (by decide)) nx_goto)))
  (e_Tok2
  (e_Lok (ld_aload_n_0 (x_dk dn_420_0_1_ok 18 rfl)))
  (e_Lok (lk_12_253g ho_420 (x_dk dn_420_0_1_ok 19 rfl)))))
  (e_Tok2
  (e_Tok2
  (e_Lok (ld_aload_n_0 (x_dk dn_420_0_1_ok 20 rfl)))
  (e_Lok (lk_12_288g ho_420 (x_dk dn_420_0_1_ok 21 rfl))))
  (e_Tok2
  (e_Lok (ld_iload_4 (x_dk dn_420_0_1_ok 22 rfl)))
  (e_Lok (e_st (I := eI) (er_ifeq (off := 7) (tg := 95) (x_dk dn_420_0_1_ok 23 rfl) (by decide)) nx_if1))))))
  (e_Tok2
  (e_Tok2
  (e_Tok2
  (e_Tok2
  (e_Lok (ld_iload_n_3 (x_dk dn_420_0_1_ok 24 rfl)))
  (e_Lok (e_st (I := eI) (er_goto (off := 4) (tg := 96) (x_dk dn_420_0_2_ok 0 rfl) (by decide)) nx_goto)))
  (e_Tok2
  (e_Lok (ps_iconst_m1 (x_dk dn_420_0_2_ok 1 rfl)))
  (e_Lok (sm_iastore (x_dk dn_420_0_2_ok 2 rfl)))))
  (e_Tok2
  (e_Tok2
  (e_Lok (ld_aload_n_0 (x_dk dn_420_0_2_ok 3 rfl)))
  (e_Lok (lk_12_256g ho_420 (x_dk dn_420_0_2_ok 4 rfl))))
  (e_Tok2
  (e_Lok (ld_aload_n_0 (x_dk dn_420_0_2_ok 5 rfl)))
  (e_Lok (lk_12_288g ho_420 (x_dk dn_420_0_2_ok 6 rfl))))))
  (e_Tok2
  (e_Tok2
  (e_Tok2
  (e_Lok (ld_iload_4 (x_dk dn_420_0_2_ok 7 rfl)))
  (e_Lok (e_st (I := eI) (er_ifeq (off := 9) (tg := 116) (x_dk dn_420_0_2_ok 8 rfl) (by decide)) nx_if1)))
  (e_Tok2
  (e_Lok (ld_iload_n_3 (x_dk dn_420_0_2_ok 9 rfl)))
  (e_Lok (ld_iload_n_1 (x_dk dn_420_0_2_ok 10 rfl)))))
  (e_Tok2
  (e_Tok2
  (e_Lok (sm_iadd (x_dk dn_420_0_2_ok 11 rfl)))
  (e_Lok (e_st (I := eI) (er_goto (off := 4) (tg := 117) (x_dk dn_420_0_2_ok 12 rfl) (by decide)) nx_goto)))
  (e_Tok2
  (e_Lok (ld_iload_n_3 (x_dk dn_420_0_2_ok 13 rfl)))
  (e_Tok2
  (e_Lok (sm_iastore (x_dk dn_420_0_2_ok 14 rfl)))
  (e_Lok (e_rt (I := eI) (k := 0) ⟨(x_dk dn_420_0_2_ok 15 rfl), rfl⟩))))))))
def te_420 : Nat → eE := (e_T 57 te_420_0 te_420_33)
theorem te_420_ok : ∀ pc, e_EOq eft cls elay eI n_420 pc (te_420 pc) := (e_Tok2 (te_420_0_ok) (te_420_33_ok))
theorem ho_421 : (xm_y n_421).cls = "RobotCellHouseModel" := rfl
def dn_421_0_0 : List (Nat × Instr × Nat) := [(0, .aload_n 0, 1), (1, .getfield 256, 3), (4, .iload_n 1, 1), (5, .iaload, 1), (6, .aload_n 0, 1), (7, .getfield 253, 3), (10, .iload_n 1, 1), (11, .iaload, 1), (12, .isub, 1), (13, .istore_n 2, 1), (14, .iconst 0, 1), (15, .istore_n 3, 1), (16, .iload_n 3, 1), (17, .iload_n 2, 1), (18, .if_icmp .ge 28, 3), (21, .aload_n 0, 1), (22, .getfield 246, 3), (25, .iload_n 3, 1), (26, .aload_n 0, 1), (27, .getfield 250, 3), (30, .aload_n 0, 1), (31, .getfield 253, 3), (34, .iload_n 1, 1), (35, .iaload, 1), (36, .iload_n 3, 1)]
set_option maxRecDepth 20000 in
theorem dn_421_0_0_ok : dn_421_0_0.all (fun q => decide (decode (xm_b n_421) q.1 = .ok (q.2.1, q.2.2))) = true := xa_g_ok (by decide +kernel)
def dn_421_0_1 : List (Nat × Instr × Nat) := [(37, .iadd, 1), (38, .iaload, 1), (39, .iastore, 1), (40, .iinc 3 1, 3), (43, .goto (-27), 3), (46, .iload_n 2, 1), (47, .ireturn, 1)]
set_option maxRecDepth 20000 in
theorem dn_421_0_1_ok : dn_421_0_1.all (fun q => decide (decode (xm_b n_421) q.1 = .ok (q.2.1, q.2.2))) = true := xa_g_ok (by decide +kernel)
def te_421_0 : Nat → eE := (e_T 21 (e_T 11 (e_T 5 (e_T 1 (e_T 0 (e_L 0 (0, ei_load 0 2 1, 0, 0)) (e_L 1 (0, ei_getf eft elay 12 116 4, 0, 0))) (e_T 4 (e_L 4 (0, ei_load 1 0 5, 0, 0)) (e_L 5 (0, ei_ald elay false 6, 0, 0)))) (e_T 7 (e_T 6 (e_L 6 (0, ei_load 0 2 7, 0, 0)) (e_L 7 (0, ei_getf eft elay 12 115 10, 0, 0))) (e_T 10 (e_L 10 (0, ei_load 1 0 11, 0, 0)) (e_L 11 (0, ei_ald elay false 12, 0, 0))))) (e_T 15 (e_T 13 (e_T 12 (e_L 12 (0, ei_bin eF_sub 13, 0, 0)) (e_L 13 (0, ei_stor 2 0 14, 0, 0))) (e_T 14 (e_L 14 (0, ei_push (0, 0) 15, 0, 0)) (e_L 15 (0, ei_stor 3 0 16, 0, 0)))) (e_T 17 (e_T 16 (e_L 16 (0, ei_load 3 0 17, 0, 0)) (e_L 17 (0, ei_load 2 0 18, 0, 0))) (e_T 18 (e_L 18 (0, ei_if2 3 46 21, 0, 0)) (e_L 21 (0, ei_load 0 2 22, 0, 0)))))) (e_T 35 (e_T 27 (e_T 25 (e_T 22 (e_L 22 (0, ei_getf eft elay 12 113 25, 0, 0)) (e_L 25 (0, ei_load 3 0 26, 0, 0))) (e_T 26 (e_L 26 (0, ei_load 0 2 27, 0, 0)) (e_L 27 (0, ei_getf eft elay 12 114 30, 0, 0)))) (e_T 31 (e_T 30 (e_L 30 (0, ei_load 0 2 31, 0, 0)) (e_L 31 (0, ei_getf eft elay 12 115 34, 0, 0))) (e_T 34 (e_L 34 (0, ei_load 1 0 35, 0, 0)) (e_L 35 (0, ei_ald elay false 36, 0, 0))))) (e_T 39 (e_T 37 (e_T 36 (e_L 36 (0, ei_load 3 0 37, 0, 0)) (e_L 37 (0, ei_bin eF_add 38, 0, 0))) (e_T 38 (e_L 38 (0, ei_ald elay false 39, 0, 0)) (e_L 39 (0, ei_ast elay false 40, 0, 0)))) (e_T 43 (e_T 40 (e_L 40 (0, ei_inc 3 1 43, 0, 0)) (e_L 43 (0, ei_goto 16, 0, 0))) (e_T 46 (e_L 46 (0, ei_load 2 0 47, 0, 0)) (e_L 47 (1, e_nof, 1, 0)))))))
set_option maxRecDepth 20000 in
set_option maxHeartbeats 4000000 in
theorem te_421_0_ok : ∀ pc, e_EOq eft cls elay eI n_421 pc (te_421_0 pc) :=
  (e_Tok2
  (e_Tok2
  (e_Tok2
  (e_Tok2
  (e_Tok2
  (e_Lok (ld_aload_n_0 (x_dk dn_421_0_0_ok 0 rfl)))
  (e_Lok (lk_12_256g ho_421 (x_dk dn_421_0_0_ok 1 rfl))))
  (e_Tok2
  (e_Lok (ld_iload_n_1 (x_dk dn_421_0_0_ok 2 rfl)))
  (e_Lok (sm_iaload (x_dk dn_421_0_0_ok 3 rfl)))))
  (e_Tok2
  (e_Tok2
  (e_Lok (ld_aload_n_0 (x_dk dn_421_0_0_ok 4 rfl)))
  (e_Lok (lk_12_253g ho_421 (x_dk dn_421_0_0_ok 5 rfl))))
  (e_Tok2
  (e_Lok (ld_iload_n_1 (x_dk dn_421_0_0_ok 6 rfl)))
  (e_Lok (sm_iaload (x_dk dn_421_0_0_ok 7 rfl))))))
  (e_Tok2
  (e_Tok2
  (e_Tok2
  (e_Lok (sm_isub (x_dk dn_421_0_0_ok 8 rfl)))
  (e_Lok (e_st (I := eI) (er_istore_n (i := 2) (x_dk dn_421_0_0_ok 9 rfl) (by decide +kernel)) nx_stor)))
  (e_Tok2
  (e_Lok (ps_iconst_0 (x_dk dn_421_0_0_ok 10 rfl)))
  (e_Lok (e_st (I := eI) (er_istore_n (i := 3) (x_dk dn_421_0_0_ok 11 rfl) (by decide +kernel)) nx_stor))))
  (e_Tok2
  (e_Tok2
  (e_Lok (ld_iload_n_3 (x_dk dn_421_0_0_ok 12 rfl)))
  (e_Lok (ld_iload_n_2 (x_dk dn_421_0_0_ok 13 rfl))))
  (e_Tok2
  (e_Lok (e_st (I := eI) (er_icmpge (off := 28) (tg := 46) (x_dk dn_421_0_0_ok 14 rfl) (by decide)) nx_if2))
  (e_Lok (ld_aload_n_0 (x_dk dn_421_0_0_ok 15 rfl)))))))
  (e_Tok2
  (e_Tok2
  (e_Tok2
  (e_Tok2
  (e_Lok (lk_12_246g ho_421 (x_dk dn_421_0_0_ok 16 rfl)))
  (e_Lok (ld_iload_n_3 (x_dk dn_421_0_0_ok 17 rfl))))
  (e_Tok2
  (e_Lok (ld_aload_n_0 (x_dk dn_421_0_0_ok 18 rfl)))
  (e_Lok (lk_12_250g ho_421 (x_dk dn_421_0_0_ok 19 rfl)))))
  (e_Tok2
  (e_Tok2
  (e_Lok (ld_aload_n_0 (x_dk dn_421_0_0_ok 20 rfl)))
  (e_Lok (lk_12_253g ho_421 (x_dk dn_421_0_0_ok 21 rfl))))
  (e_Tok2
  (e_Lok (ld_iload_n_1 (x_dk dn_421_0_0_ok 22 rfl)))
  (e_Lok (sm_iaload (x_dk dn_421_0_0_ok 23 rfl))))))
  (e_Tok2
  (e_Tok2
  (e_Tok2
  (e_Lok (ld_iload_n_3 (x_dk dn_421_0_0_ok 24 rfl)))
  (e_Lok (sm_iadd (x_dk dn_421_0_1_ok 0 rfl))))
  (e_Tok2
  (e_Lok (sm_iaload (x_dk dn_421_0_1_ok 1 rfl)))
  (e_Lok (sm_iastore (x_dk dn_421_0_1_ok 2 rfl)))))
  (e_Tok2
  (e_Tok2
  (e_Lok (e_st (I := eI) (er_iinc (i := 3) (n := 1) (x_dk dn_421_0_1_ok 3 rfl) (by decide +kernel) (by decide)) nx_inc))
  (e_Lok (e_st (I := eI) (er_goto (off := (-27)) (tg := 16) (x_dk dn_421_0_1_ok 4 rfl) (by decide)) nx_goto)))
  (e_Tok2
  (e_Lok (ld_iload_n_2 (x_dk dn_421_0_1_ok 5 rfl)))
  (e_Lok (e_rt (I := eI) (k := 1) ⟨(x_dk dn_421_0_1_ok 6 rfl), rfl⟩)))))))
def te_421 : Nat → eE := te_421_0
theorem te_421_ok : ∀ pc, e_EOq eft cls elay eI n_421 pc (te_421 pc) := te_421_0_ok
theorem ho_422 : (xm_y n_422).cls = "RobotCellHouseModel" := rfl
def dn_422_0_0 : List (Nat × Instr × Nat) := [(0, .aload_n 0, 1), (1, .getfield 288, 3), (4, .sipush 2000, 3), (7, .if_icmp .ne 14, 3), (10, .aload_n 0, 1), (11, .getfield 771, 3), (14, .ifCond .ne 7, 3), (17, .iconst 1, 1), (18, .goto 4, 3), (21, .iconst 0, 1), (22, .ireturn, 1)]
set_option maxRecDepth 20000 in
theorem dn_422_0_0_ok : dn_422_0_0.all (fun q => decide (decode (xm_b n_422) q.1 = .ok (q.2.1, q.2.2))) = true := xa_g_ok (by decide +kernel)
def te_422_0 : Nat → eE := (e_T 10 (e_T 1 (e_T 0 (e_L 0 (0, ei_load 0 2 1, 0, 0)) (e_L 1 (0, ei_getf eft elay 12 5 4, 0, 0))) (e_T 4 (e_L 4 (0, ei_push (0, 2000) 7, 0, 0)) (e_T 7 (e_L 7 (0, ei_if2 1 21 10, 0, 0)) (e_L 10 (0, ei_load 0 2 11, 0, 0))))) (e_T 17 (e_T 11 (e_L 11 (0, ei_getf eft elay 12 6 14, 0, 0)) (e_T 14 (e_L 14 (0, ei_if1 1 21 17, 0, 0)) (e_L 17 (0, ei_push (0, 1) 18, 0, 0)))) (e_T 18 (e_L 18 (0, ei_goto 22, 0, 0)) (e_T 21 (e_L 21 (0, ei_push (0, 0) 22, 0, 0)) (e_L 22 (1, e_nof, 4, 0))))))
set_option maxRecDepth 20000 in
set_option maxHeartbeats 4000000 in
theorem te_422_0_ok : ∀ pc, e_EOq eft cls elay eI n_422 pc (te_422_0 pc) :=
  (e_Tok2
  (e_Tok2
  (e_Tok2
  (e_Lok (ld_aload_n_0 (x_dk dn_422_0_0_ok 0 rfl)))
  (e_Lok (lk_12_288g ho_422 (x_dk dn_422_0_0_ok 1 rfl))))
  (e_Tok2
  (e_Lok (ps_sipush_2000 (x_dk dn_422_0_0_ok 2 rfl)))
  (e_Tok2
  (e_Lok (e_st (I := eI) (er_icmpne (off := 14) (tg := 21) (x_dk dn_422_0_0_ok 3 rfl) (by decide)) nx_if2))
  (e_Lok (ld_aload_n_0 (x_dk dn_422_0_0_ok 4 rfl))))))
  (e_Tok2
  (e_Tok2
  (e_Lok (lk_12_771g ho_422 (x_dk dn_422_0_0_ok 5 rfl)))
  (e_Tok2
  (e_Lok (e_st (I := eI) (er_ifne (off := 7) (tg := 21) (x_dk dn_422_0_0_ok 6 rfl) (by decide)) nx_if1))
  (e_Lok (ps_iconst_1 (x_dk dn_422_0_0_ok 7 rfl)))))
  (e_Tok2
  (e_Lok (e_st (I := eI) (er_goto (off := 4) (tg := 22) (x_dk dn_422_0_0_ok 8 rfl) (by decide)) nx_goto))
  (e_Tok2
  (e_Lok (ps_iconst_0 (x_dk dn_422_0_0_ok 9 rfl)))
  (e_Lok (e_rt (I := eI) (k := 4) ⟨(x_dk dn_422_0_0_ok 10 rfl), rfl⟩))))))
def te_422 : Nat → eE := te_422_0
theorem te_422_ok : ∀ pc, e_EOq eft cls elay eI n_422 pc (te_422 pc) := te_422_0_ok
theorem ho_423 : (xm_y n_423).cls = "RobotCellHouseModel" := rfl
def dn_423_0_0 : List (Nat × Instr × Nat) := [(0, .aload_n 0, 1), (1, .getfield 771, 3), (4, .ifCond .eq 4, 3), (7, .return_, 1), (8, .aload_n 0, 1), (9, .iload_n 1, 1), (10, .bipush 10, 2), (12, .if_icmp .ne 17, 3), (15, .aload_n 0, 1), (16, .getfield 8, 3), (19, .iload_n 2, 1), (20, .invokestatic 294, 3), (23, .iconst 3, 1), (24, .iadd, 1), (25, .iaload, 1), (26, .goto 4, 3), (29, .iconst 0, 1), (30, .iload_n 1, 1), (31, .bipush 10, 2), (33, .if_icmp .ne 7, 3), (36, .iconst 1, 1), (37, .goto 4, 3), (40, .iconst 0, 1), (41, .invokevirtual 870, 3), (44, .aload_n 0, 1)]
set_option maxRecDepth 20000 in
theorem dn_423_0_0_ok : dn_423_0_0.all (fun q => decide (decode (xm_b n_423) q.1 = .ok (q.2.1, q.2.2))) = true := xa_g_ok (by decide +kernel)
def dn_423_0_1 : List (Nat × Instr × Nat) := [(45, .getfield 21, 3), (48, .iconst 4, 1), (49, .aload_n 0, 1), (50, .getfield 288, 3), (53, .imul, 1), (54, .iload_n 1, 1), (55, .iastore, 1), (56, .aload_n 0, 1), (57, .getfield 21, 3), (60, .iconst 4, 1), (61, .aload_n 0, 1), (62, .getfield 288, 3), (65, .imul, 1), (66, .iconst 1, 1), (67, .iadd, 1), (68, .iload_n 2, 1), (69, .iastore, 1), (70, .aload_n 0, 1), (71, .getfield 21, 3), (74, .iconst 4, 1), (75, .aload_n 0, 1), (76, .getfield 288, 3), (79, .imul, 1), (80, .iconst 2, 1), (81, .iadd, 1)]
set_option maxRecDepth 20000 in
theorem dn_423_0_1_ok : dn_423_0_1.all (fun q => decide (decode (xm_b n_423) q.1 = .ok (q.2.1, q.2.2))) = true := xa_g_ok (by decide +kernel)
def dn_423_0_2 : List (Nat × Instr × Nat) := [(82, .iload_n 3, 1), (83, .iastore, 1), (84, .aload_n 0, 1), (85, .getfield 21, 3), (88, .iconst 4, 1), (89, .aload_n 0, 1), (90, .getfield 288, 3), (93, .imul, 1), (94, .iconst 3, 1), (95, .iadd, 1), (96, .iload 4, 2), (98, .iastore, 1), (99, .aload_n 0, 1), (100, .dup, 1), (101, .getfield 288, 3), (104, .iconst 1, 1), (105, .iadd, 1), (106, .putfield 288, 3), (109, .aload_n 0, 1), (110, .getfield 288, 3), (113, .bipush 100, 2), (115, .irem, 1), (116, .ifCond .ne 50, 3), (119, .ldc 7, 2), (121, .aload_n 0, 1)]
set_option maxRecDepth 20000 in
theorem dn_423_0_2_ok : dn_423_0_2.all (fun q => decide (decode (xm_b n_423) q.1 = .ok (q.2.1, q.2.2))) = true := xa_g_ok (by decide +kernel)
def dn_423_0_3 : List (Nat × Instr × Nat) := [(122, .getfield 288, 3), (125, .bipush 100, 2), (127, .idiv, 1), (128, .iconst 1, 1), (129, .isub, 1), (130, .imul, 1), (131, .istore 5, 2), (133, .iconst 0, 1), (134, .istore 6, 2), (136, .iload 6, 2), (138, .ldc 7, 2), (140, .if_icmp .ge 26, 3), (143, .aload_n 0, 1), (144, .getfield 18, 3), (147, .iload 5, 2), (149, .iload 6, 2), (151, .iadd, 1), (152, .aload_n 0, 1), (153, .getfield 8, 3), (156, .iload 6, 2), (158, .iaload, 1), (159, .iastore, 1), (160, .iinc 6 1, 3), (163, .goto (-27), 3), (166, .return_, 1)]
set_option maxRecDepth 20000 in
theorem dn_423_0_3_ok : dn_423_0_3.all (fun q => decide (decode (xm_b n_423) q.1 = .ok (q.2.1, q.2.2))) = true := xa_g_ok (by decide +kernel)
def te_423_0 : Nat → eE := (e_T 20 (e_T 9 (e_T 4 (e_T 0 (e_L 0 (0, ei_load 0 2 1, 0, 0)) (e_T 1 (e_L 1 (0, ei_getf eft elay 12 6 4, 0, 0)) (e_L 4 (0, ei_if1 0 8 7, 0, 0)))) (e_T 7 (e_L 7 (1, e_nof, 0, 0)) (e_T 8 (e_L 8 (0, ei_load 0 2 9, 0, 0)) (e_L 9 (0, ei_load 1 0 10, 0, 0))))) (e_T 15 (e_T 10 (e_L 10 (0, ei_push (0, 10) 12, 0, 0)) (e_T 12 (e_L 12 (0, ei_if2 1 29 15, 0, 0)) (e_L 15 (0, ei_load 0 2 16, 0, 0)))) (e_T 16 (e_L 16 (0, ei_getf eft elay 12 0 19, 0, 0)) (e_T 19 (e_L 19 (0, ei_load 2 0 20, 0, 0)) (e_L 20 (2, e_nof, 268, 1)))))) (e_T 30 (e_T 25 (e_T 23 (e_L 23 (0, ei_push (0, 3) 24, 0, 0)) (e_T 24 (e_L 24 (0, ei_bin eF_add 25, 0, 0)) (e_L 25 (0, ei_ald elay false 26, 0, 0)))) (e_T 26 (e_L 26 (0, ei_goto 30, 0, 0)) (e_T 29 (e_L 29 (0, ei_push (0, 0) 30, 0, 0)) (e_L 30 (0, ei_load 1 0 31, 0, 0))))) (e_T 36 (e_T 31 (e_L 31 (0, ei_push (0, 10) 33, 0, 0)) (e_T 33 (e_L 33 (0, ei_if2 1 40 36, 0, 0)) (e_L 36 (0, ei_push (0, 1) 37, 0, 0)))) (e_T 40 (e_T 37 (e_L 37 (0, ei_goto 41, 0, 0)) (e_L 40 (0, ei_push (0, 0) 41, 0, 0))) (e_T 41 (e_L 41 (2, e_nof, 420, 3)) (e_L 44 (0, ei_load 0 2 45, 0, 0)))))))
set_option maxRecDepth 20000 in
set_option maxHeartbeats 4000000 in
theorem te_423_0_ok : ∀ pc, e_EOq eft cls elay eI n_423 pc (te_423_0 pc) :=
  (e_Tok2
  (e_Tok2
  (e_Tok2
  (e_Tok2
  (e_Lok (ld_aload_n_0 (x_dk dn_423_0_0_ok 0 rfl)))
  (e_Tok2
  (e_Lok (lk_12_771g ho_423 (x_dk dn_423_0_0_ok 1 rfl)))
  (e_Lok (e_st (I := eI) (er_ifeq (off := 4) (tg := 8) (x_dk dn_423_0_0_ok 2 rfl) (by decide)) nx_if1))))
  (e_Tok2
  (e_Lok (e_rt (I := eI) (k := 0) ⟨(x_dk dn_423_0_0_ok 3 rfl), rfl⟩))
  (e_Tok2
  (e_Lok (ld_aload_n_0 (x_dk dn_423_0_0_ok 4 rfl)))
  (e_Lok (ld_iload_n_1 (x_dk dn_423_0_0_ok 5 rfl))))))
  (e_Tok2
  (e_Tok2
  (e_Lok (ps_bipush_10 (x_dk dn_423_0_0_ok 6 rfl)))
  (e_Tok2
  (e_Lok (e_st (I := eI) (er_icmpne (off := 17) (tg := 29) (x_dk dn_423_0_0_ok 7 rfl) (by decide)) nx_if2))
  (e_Lok (ld_aload_n_0 (x_dk dn_423_0_0_ok 8 rfl)))))
  (e_Tok2
  (e_Lok (lk_12_8g ho_423 (x_dk dn_423_0_0_ok 9 rfl)))
  (e_Tok2
  (e_Lok (ld_iload_n_2 (x_dk dn_423_0_0_ok 10 rfl)))
  (e_Lok (lk_12_294 ho_423 (x_dk dn_423_0_0_ok 11 rfl)))))))
  (e_Tok2
  (e_Tok2
  (e_Tok2
  (e_Lok (ps_iconst_3 (x_dk dn_423_0_0_ok 12 rfl)))
  (e_Tok2
  (e_Lok (sm_iadd (x_dk dn_423_0_0_ok 13 rfl)))
  (e_Lok (sm_iaload (x_dk dn_423_0_0_ok 14 rfl)))))
  (e_Tok2
  (e_Lok (e_st (I := eI) (er_goto (off := 4) (tg := 30) (x_dk dn_423_0_0_ok 15 rfl) (by decide)) nx_goto))
  (e_Tok2
  (e_Lok (ps_iconst_0 (x_dk dn_423_0_0_ok 16 rfl)))
  (e_Lok (ld_iload_n_1 (x_dk dn_423_0_0_ok 17 rfl))))))
  (e_Tok2
  (e_Tok2
  (e_Lok (ps_bipush_10 (x_dk dn_423_0_0_ok 18 rfl)))
  (e_Tok2
  (e_Lok (e_st (I := eI) (er_icmpne (off := 7) (tg := 40) (x_dk dn_423_0_0_ok 19 rfl) (by decide)) nx_if2))
  (e_Lok (ps_iconst_1 (x_dk dn_423_0_0_ok 20 rfl)))))
  (e_Tok2
  (e_Tok2
  (e_Lok (e_st (I := eI) (er_goto (off := 4) (tg := 41) (x_dk dn_423_0_0_ok 21 rfl) (by decide)) nx_goto))
  (e_Lok (ps_iconst_0 (x_dk dn_423_0_0_ok 22 rfl))))
  (e_Tok2
  (e_Lok (lk_12_870 ho_423 (x_dk dn_423_0_0_ok 23 rfl)))
  (e_Lok (ld_aload_n_0 (x_dk dn_423_0_0_ok 24 rfl))))))))
def te_423_25 : Nat → eE := (e_T 62 (e_T 54 (e_T 49 (e_T 45 (e_L 45 (0, ei_getf eft elay 12 4 48, 0, 0)) (e_T 48 (e_L 48 (0, ei_push (0, 4) 49, 0, 0)) (e_L 49 (0, ei_load 0 2 50, 0, 0)))) (e_T 50 (e_L 50 (0, ei_getf eft elay 12 5 53, 0, 0)) (e_T 53 (e_L 53 (0, ei_bin eF_mul 54, 0, 0)) (e_L 54 (0, ei_load 1 0 55, 0, 0))))) (e_T 57 (e_T 55 (e_L 55 (0, ei_ast elay false 56, 0, 0)) (e_T 56 (e_L 56 (0, ei_load 0 2 57, 0, 0)) (e_L 57 (0, ei_getf eft elay 12 4 60, 0, 0)))) (e_T 60 (e_L 60 (0, ei_push (0, 4) 61, 0, 0)) (e_T 61 (e_L 61 (0, ei_load 0 2 62, 0, 0)) (e_L 62 (0, ei_getf eft elay 12 5 65, 0, 0)))))) (e_T 70 (e_T 67 (e_T 65 (e_L 65 (0, ei_bin eF_mul 66, 0, 0)) (e_T 66 (e_L 66 (0, ei_push (0, 1) 67, 0, 0)) (e_L 67 (0, ei_bin eF_add 68, 0, 0)))) (e_T 68 (e_L 68 (0, ei_load 2 0 69, 0, 0)) (e_T 69 (e_L 69 (0, ei_ast elay false 70, 0, 0)) (e_L 70 (0, ei_load 0 2 71, 0, 0))))) (e_T 75 (e_T 71 (e_L 71 (0, ei_getf eft elay 12 4 74, 0, 0)) (e_T 74 (e_L 74 (0, ei_push (0, 4) 75, 0, 0)) (e_L 75 (0, ei_load 0 2 76, 0, 0)))) (e_T 79 (e_T 76 (e_L 76 (0, ei_getf eft elay 12 5 79, 0, 0)) (e_L 79 (0, ei_bin eF_mul 80, 0, 0))) (e_T 80 (e_L 80 (0, ei_push (0, 2) 81, 0, 0)) (e_L 81 (0, ei_bin eF_add 82, 0, 0)))))))
set_option maxRecDepth 20000 in
set_option maxHeartbeats 4000000 in
theorem te_423_25_ok : ∀ pc, e_EOq eft cls elay eI n_423 pc (te_423_25 pc) :=
  (e_Tok2
  (e_Tok2
  (e_Tok2
  (e_Tok2
  (e_Lok (lk_12_21g ho_423 (x_dk dn_423_0_1_ok 0 rfl)))
  (e_Tok2
  (e_Lok (ps_iconst_4 (x_dk dn_423_0_1_ok 1 rfl)))
  (e_Lok (ld_aload_n_0 (x_dk dn_423_0_1_ok 2 rfl)))))
  (e_Tok2
  (e_Lok (lk_12_288g ho_423 (x_dk dn_423_0_1_ok 3 rfl)))
  (e_Tok2
  (e_Lok (sm_imul (x_dk dn_423_0_1_ok 4 rfl)))
  (e_Lok (ld_iload_n_1 (x_dk dn_423_0_1_ok 5 rfl))))))
  (e_Tok2
  (e_Tok2
  (e_Lok (sm_iastore (x_dk dn_423_0_1_ok 6 rfl)))
  (e_Tok2
  (e_Lok (ld_aload_n_0 (x_dk dn_423_0_1_ok 7 rfl)))
  (e_Lok (lk_12_21g ho_423 (x_dk dn_423_0_1_ok 8 rfl)))))
  (e_Tok2
  (e_Lok (ps_iconst_4 (x_dk dn_423_0_1_ok 9 rfl)))
  (e_Tok2
  (e_Lok (ld_aload_n_0 (x_dk dn_423_0_1_ok 10 rfl)))
  (e_Lok (lk_12_288g ho_423 (x_dk dn_423_0_1_ok 11 rfl)))))))
  (e_Tok2
  (e_Tok2
  (e_Tok2
  (e_Lok (sm_imul (x_dk dn_423_0_1_ok 12 rfl)))
  (e_Tok2
  (e_Lok (ps_iconst_1 (x_dk dn_423_0_1_ok 13 rfl)))
  (e_Lok (sm_iadd (x_dk dn_423_0_1_ok 14 rfl)))))
  (e_Tok2
  (e_Lok (ld_iload_n_2 (x_dk dn_423_0_1_ok 15 rfl)))
  (e_Tok2
  (e_Lok (sm_iastore (x_dk dn_423_0_1_ok 16 rfl)))
  (e_Lok (ld_aload_n_0 (x_dk dn_423_0_1_ok 17 rfl))))))
  (e_Tok2
  (e_Tok2
  (e_Lok (lk_12_21g ho_423 (x_dk dn_423_0_1_ok 18 rfl)))
  (e_Tok2
  (e_Lok (ps_iconst_4 (x_dk dn_423_0_1_ok 19 rfl)))
  (e_Lok (ld_aload_n_0 (x_dk dn_423_0_1_ok 20 rfl)))))
  (e_Tok2
  (e_Tok2
  (e_Lok (lk_12_288g ho_423 (x_dk dn_423_0_1_ok 21 rfl)))
  (e_Lok (sm_imul (x_dk dn_423_0_1_ok 22 rfl))))
  (e_Tok2
  (e_Lok (ps_iconst_2 (x_dk dn_423_0_1_ok 23 rfl)))
  (e_Lok (sm_iadd (x_dk dn_423_0_1_ok 24 rfl))))))))
def te_423_50 : Nat → eE := (e_T 98 (e_T 89 (e_T 84 (e_T 82 (e_L 82 (0, ei_load 3 0 83, 0, 0)) (e_T 83 (e_L 83 (0, ei_ast elay false 84, 0, 0)) (e_L 84 (0, ei_load 0 2 85, 0, 0)))) (e_T 85 (e_L 85 (0, ei_getf eft elay 12 4 88, 0, 0)) (e_T 88 (e_L 88 (0, ei_push (0, 4) 89, 0, 0)) (e_L 89 (0, ei_load 0 2 90, 0, 0))))) (e_T 94 (e_T 90 (e_L 90 (0, ei_getf eft elay 12 5 93, 0, 0)) (e_T 93 (e_L 93 (0, ei_bin eF_mul 94, 0, 0)) (e_L 94 (0, ei_push (0, 3) 95, 0, 0)))) (e_T 95 (e_L 95 (0, ei_bin eF_add 96, 0, 0)) (e_T 96 (e_L 96 (0, ei_load 4 0 98, 0, 0)) (e_L 98 (0, ei_ast elay false 99, 0, 0)))))) (e_T 106 (e_T 101 (e_T 99 (e_L 99 (0, ei_load 0 2 100, 0, 0)) (e_T 100 (e_L 100 (0, ei_stk ef_dup 101, 0, 0)) (e_L 101 (0, ei_getf eft elay 12 5 104, 0, 0)))) (e_T 104 (e_L 104 (0, ei_push (0, 1) 105, 0, 0)) (e_T 105 (e_L 105 (0, ei_bin eF_add 106, 0, 0)) (e_L 106 (0, ei_putf eft elay 12 5 0 109, 0, 0))))) (e_T 113 (e_T 109 (e_L 109 (0, ei_load 0 2 110, 0, 0)) (e_T 110 (e_L 110 (0, ei_getf eft elay 12 5 113, 0, 0)) (e_L 113 (0, ei_push (0, 100) 115, 0, 0)))) (e_T 116 (e_T 115 (e_L 115 (0, ei_bin eF_rem 116, 0, 0)) (e_L 116 (0, ei_if1 1 166 119, 0, 0))) (e_T 119 (e_L 119 (0, ei_push (0, 33060) 121, 0, 0)) (e_L 121 (0, ei_load 0 2 122, 0, 0)))))))
set_option maxRecDepth 20000 in
set_option maxHeartbeats 4000000 in
theorem te_423_50_ok : ∀ pc, e_EOq eft cls elay eI n_423 pc (te_423_50 pc) :=
  (e_Tok2
  (e_Tok2
  (e_Tok2
  (e_Tok2
  (e_Lok (ld_iload_n_3 (x_dk dn_423_0_2_ok 0 rfl)))
  (e_Tok2
  (e_Lok (sm_iastore (x_dk dn_423_0_2_ok 1 rfl)))
  (e_Lok (ld_aload_n_0 (x_dk dn_423_0_2_ok 2 rfl)))))
  (e_Tok2
  (e_Lok (lk_12_21g ho_423 (x_dk dn_423_0_2_ok 3 rfl)))
  (e_Tok2
  (e_Lok (ps_iconst_4 (x_dk dn_423_0_2_ok 4 rfl)))
  (e_Lok (ld_aload_n_0 (x_dk dn_423_0_2_ok 5 rfl))))))
  (e_Tok2
  (e_Tok2
  (e_Lok (lk_12_288g ho_423 (x_dk dn_423_0_2_ok 6 rfl)))
  (e_Tok2
  (e_Lok (sm_imul (x_dk dn_423_0_2_ok 7 rfl)))
  (e_Lok (ps_iconst_3 (x_dk dn_423_0_2_ok 8 rfl)))))
  (e_Tok2
  (e_Lok (sm_iadd (x_dk dn_423_0_2_ok 9 rfl)))
  (e_Tok2
  (e_Lok (ld_iload_4 (x_dk dn_423_0_2_ok 10 rfl)))
  (e_Lok (sm_iastore (x_dk dn_423_0_2_ok 11 rfl)))))))
  (e_Tok2
  (e_Tok2
  (e_Tok2
  (e_Lok (ld_aload_n_0 (x_dk dn_423_0_2_ok 12 rfl)))
  (e_Tok2
  (e_Lok (e_st (I := eI) (er_dup (x_dk dn_423_0_2_ok 13 rfl)) (nx_stk bf_dup)))
  (e_Lok (lk_12_288g ho_423 (x_dk dn_423_0_2_ok 14 rfl)))))
  (e_Tok2
  (e_Lok (ps_iconst_1 (x_dk dn_423_0_2_ok 15 rfl)))
  (e_Tok2
  (e_Lok (sm_iadd (x_dk dn_423_0_2_ok 16 rfl)))
  (e_Lok (lk_12_288p ho_423 (x_dk dn_423_0_2_ok 17 rfl))))))
  (e_Tok2
  (e_Tok2
  (e_Lok (ld_aload_n_0 (x_dk dn_423_0_2_ok 18 rfl)))
  (e_Tok2
  (e_Lok (lk_12_288g ho_423 (x_dk dn_423_0_2_ok 19 rfl)))
  (e_Lok (ps_bipush_100 (x_dk dn_423_0_2_ok 20 rfl)))))
  (e_Tok2
  (e_Tok2
  (e_Lok (e_st (I := eI) (er_irem (x_dk dn_423_0_2_ok 21 rfl)) nx_bin))
  (e_Lok (e_st (I := eI) (er_ifne (off := 50) (tg := 166) (x_dk dn_423_0_2_ok 22 rfl) (by decide)) nx_if1)))
  (e_Tok2
  (e_Lok (e_st (I := eI) (er_ldc (ix := 7) (z := 33060) (v := 33060) (x_dk dn_423_0_2_ok 23 rfl) (in_t9 (List.mem_of_getElem? (i := 86) rfl) rfl) (by decide)) (nx_push (Or.inl rfl))))
  (e_Lok (ld_aload_n_0 (x_dk dn_423_0_2_ok 24 rfl))))))))
def te_423_75 : Nat → eE := (e_T 140 (e_T 130 (e_T 127 (e_T 122 (e_L 122 (0, ei_getf eft elay 12 5 125, 0, 0)) (e_T 125 (e_L 125 (0, ei_push (0, 100) 127, 0, 0)) (e_L 127 (0, ei_bin eF_div 128, 0, 0)))) (e_T 128 (e_L 128 (0, ei_push (0, 1) 129, 0, 0)) (e_T 129 (e_L 129 (0, ei_bin eF_sub 130, 0, 0)) (e_L 130 (0, ei_bin eF_mul 131, 0, 0))))) (e_T 134 (e_T 131 (e_L 131 (0, ei_stor 5 0 133, 0, 0)) (e_T 133 (e_L 133 (0, ei_push (0, 0) 134, 0, 0)) (e_L 134 (0, ei_stor 6 0 136, 0, 0)))) (e_T 136 (e_L 136 (0, ei_load 6 0 138, 0, 0)) (e_T 138 (e_L 138 (0, ei_push (0, 33060) 140, 0, 0)) (e_L 140 (0, ei_if2 3 166 143, 0, 0)))))) (e_T 152 (e_T 147 (e_T 143 (e_L 143 (0, ei_load 0 2 144, 0, 0)) (e_T 144 (e_L 144 (0, ei_getf eft elay 12 2 147, 0, 0)) (e_L 147 (0, ei_load 5 0 149, 0, 0)))) (e_T 149 (e_L 149 (0, ei_load 6 0 151, 0, 0)) (e_T 151 (e_L 151 (0, ei_bin eF_add 152, 0, 0)) (e_L 152 (0, ei_load 0 2 153, 0, 0))))) (e_T 158 (e_T 153 (e_L 153 (0, ei_getf eft elay 12 0 156, 0, 0)) (e_T 156 (e_L 156 (0, ei_load 6 0 158, 0, 0)) (e_L 158 (0, ei_ald elay false 159, 0, 0)))) (e_T 160 (e_T 159 (e_L 159 (0, ei_ast elay false 160, 0, 0)) (e_L 160 (0, ei_inc 6 1 163, 0, 0))) (e_T 163 (e_L 163 (0, ei_goto 136, 0, 0)) (e_L 166 (1, e_nof, 0, 0)))))))
set_option maxRecDepth 20000 in
set_option maxHeartbeats 4000000 in
theorem te_423_75_ok : ∀ pc, e_EOq eft cls elay eI n_423 pc (te_423_75 pc) :=
  (e_Tok2
  (e_Tok2
  (e_Tok2
  (e_Tok2
  (e_Lok (lk_12_288g ho_423 (x_dk dn_423_0_3_ok 0 rfl)))
  (e_Tok2
  (e_Lok (ps_bipush_100 (x_dk dn_423_0_3_ok 1 rfl)))
  (e_Lok (e_st (I := eI) (er_idiv (x_dk dn_423_0_3_ok 2 rfl)) nx_bin))))
  (e_Tok2
  (e_Lok (ps_iconst_1 (x_dk dn_423_0_3_ok 3 rfl)))
  (e_Tok2
  (e_Lok (sm_isub (x_dk dn_423_0_3_ok 4 rfl)))
  (e_Lok (sm_imul (x_dk dn_423_0_3_ok 5 rfl))))))
  (e_Tok2
  (e_Tok2
  (e_Lok (e_st (I := eI) (er_istore (i := 5) (x_dk dn_423_0_3_ok 6 rfl) (by decide +kernel)) nx_stor))
  (e_Tok2
  (e_Lok (ps_iconst_0 (x_dk dn_423_0_3_ok 7 rfl)))
  (e_Lok (e_st (I := eI) (er_istore (i := 6) (x_dk dn_423_0_3_ok 8 rfl) (by decide +kernel)) nx_stor))))
  (e_Tok2
  (e_Lok (ld_iload_6 (x_dk dn_423_0_3_ok 9 rfl)))
  (e_Tok2
  (e_Lok (e_st (I := eI) (er_ldc (ix := 7) (z := 33060) (v := 33060) (x_dk dn_423_0_3_ok 10 rfl) (in_t9 (List.mem_of_getElem? (i := 86) rfl) rfl) (by decide)) (nx_push (Or.inl rfl))))
  (e_Lok (e_st (I := eI) (er_icmpge (off := 26) (tg := 166) (x_dk dn_423_0_3_ok 11 rfl) (by decide)) nx_if2))))))
  (e_Tok2
  (e_Tok2
  (e_Tok2
  (e_Lok (ld_aload_n_0 (x_dk dn_423_0_3_ok 12 rfl)))
  (e_Tok2
  (e_Lok (lk_12_18g ho_423 (x_dk dn_423_0_3_ok 13 rfl)))
  (e_Lok (ld_iload_5 (x_dk dn_423_0_3_ok 14 rfl)))))
  (e_Tok2
  (e_Lok (ld_iload_6 (x_dk dn_423_0_3_ok 15 rfl)))
  (e_Tok2
  (e_Lok (sm_iadd (x_dk dn_423_0_3_ok 16 rfl)))
  (e_Lok (ld_aload_n_0 (x_dk dn_423_0_3_ok 17 rfl))))))
  (e_Tok2
  (e_Tok2
  (e_Lok (lk_12_8g ho_423 (x_dk dn_423_0_3_ok 18 rfl)))
  (e_Tok2
  (e_Lok (ld_iload_6 (x_dk dn_423_0_3_ok 19 rfl)))
  (e_Lok (sm_iaload (x_dk dn_423_0_3_ok 20 rfl)))))
  (e_Tok2
  (e_Tok2
  (e_Lok (sm_iastore (x_dk dn_423_0_3_ok 21 rfl)))
  (e_Lok (e_st (I := eI) (er_iinc (i := 6) (n := 1) (x_dk dn_423_0_3_ok 22 rfl) (by decide +kernel) (by decide)) nx_inc)))
  (e_Tok2
  (e_Lok (e_st (I := eI) (er_goto (off := (-27)) (tg := 136) (x_dk dn_423_0_3_ok 23 rfl) (by decide)) nx_goto))
  (e_Lok (e_rt (I := eI) (k := 0) ⟨(x_dk dn_423_0_3_ok 24 rfl), rfl⟩)))))))
def te_423 : Nat → eE := (e_T 81 (e_T 44 te_423_0 te_423_25) (e_T 121 te_423_50 te_423_75))
theorem te_423_ok : ∀ pc, e_EOq eft cls elay eI n_423 pc (te_423 pc) := (e_Tok2 ((e_Tok2 (te_423_0_ok) (te_423_25_ok))) ((e_Tok2 (te_423_50_ok) (te_423_75_ok))))
theorem ho_424 : (xm_y n_424).cls = "RobotCellHouseModel" := rfl
def dn_424_0_0 : List (Nat × Instr × Nat) := [(0, .iload_n 1, 1), (1, .i2l, 1), (2, .lconst 0, 1), (3, .ldc2_w 352, 3), (6, .invokestatic 301, 3), (9, .ireturn, 1)]
set_option maxRecDepth 20000 in
theorem dn_424_0_0_ok : dn_424_0_0.all (fun q => decide (decode (xm_b n_424) q.1 = .ok (q.2.1, q.2.2))) = true := xa_g_ok (by decide +kernel)
def te_424_0 : Nat → eE := (e_T 2 (e_T 0 (e_L 0 (0, ei_load 1 0 1, 0, 0)) (e_T 1 (e_L 1 (0, ei_un (fun x => (4, x)) 2, 0, 0)) (e_L 2 (0, ei_push (4, 0) 3, 0, 0)))) (e_T 3 (e_L 3 (0, ei_push (4, 63) 6, 0, 0)) (e_T 6 (e_L 6 (2, e_nof, 266, 3)) (e_L 9 (1, e_nof, 4, 0)))))
set_option maxRecDepth 20000 in
set_option maxHeartbeats 4000000 in
theorem te_424_0_ok : ∀ pc, e_EOq eft cls elay eI n_424 pc (te_424_0 pc) :=
  (e_Tok2
  (e_Tok2
  (e_Lok (ld_iload_n_1 (x_dk dn_424_0_0_ok 0 rfl)))
  (e_Tok2
  (e_Lok (e_st (I := eI) (er_i2l (x_dk dn_424_0_0_ok 1 rfl)) (nx_un (fun _ => rfl))))
  (e_Lok (ps_lconst_0 (x_dk dn_424_0_0_ok 2 rfl)))))
  (e_Tok2
  (e_Lok (e_st (I := eI) (er_ldc2 (ix := 352) (z := 63) (v := 63) (x_dk dn_424_0_0_ok 3 rfl) (in_t11 (List.mem_of_getElem? (i := 81) rfl) rfl) (by decide)) (nx_push (Or.inl rfl))))
  (e_Tok2
  (e_Lok (lk_12_301 ho_424 (x_dk dn_424_0_0_ok 4 rfl)))
  (e_Lok (e_rt (I := eI) (k := 4) ⟨(x_dk dn_424_0_0_ok 5 rfl), rfl⟩)))))
def te_424 : Nat → eE := te_424_0
theorem te_424_ok : ∀ pc, e_EOq eft cls elay eI n_424 pc (te_424 pc) := te_424_0_ok
theorem ho_425 : (xm_y n_425).cls = "RobotCellHouseModel" := rfl
def dn_425_0_0 : List (Nat × Instr × Nat) := [(0, .aload_n 0, 1), (1, .iload_n 1, 1), (2, .invokevirtual 305, 3), (5, .ifCond .eq 21, 3), (8, .iload_n 2, 1), (9, .i2l, 1), (10, .lconst 0, 1), (11, .aload_n 0, 1), (12, .getfield 201, 3), (15, .iload_n 1, 1), (16, .iaload, 1), (17, .iconst 1, 1), (18, .isub, 1), (19, .i2l, 1), (20, .invokestatic 301, 3), (23, .ifCond .ne 5, 3), (26, .iconst (-1), 1), (27, .ireturn, 1), (28, .aload_n 0, 1), (29, .getfield 265, 3), (32, .ifCond .ne 6, 3), (35, .bipush (-2), 2), (37, .ireturn, 1), (38, .iconst 0, 1), (39, .istore_n 3, 1)]
set_option maxRecDepth 20000 in
theorem dn_425_0_0_ok : dn_425_0_0.all (fun q => decide (decode (xm_b n_425) q.1 = .ok (q.2.1, q.2.2))) = true := xa_g_ok (by decide +kernel)
def dn_425_0_1 : List (Nat × Instr × Nat) := [(40, .iconst 0, 1), (41, .istore 4, 2), (43, .iload 4, 2), (45, .bipush 16, 2), (47, .if_icmp .ge 45, 3), (50, .iload_n 3, 1), (51, .aload_n 0, 1), (52, .getfield 8, 3), (55, .iload 4, 2), (57, .invokestatic 298, 3), (60, .iaload, 1), (61, .ifCond .eq 18, 3), (64, .aload_n 0, 1), (65, .getfield 8, 3), (68, .iload 4, 2), (70, .invokestatic 298, 3), (73, .iaload, 1), (74, .bipush 6, 2), (76, .if_icmp .ne 7, 3), (79, .iconst 1, 1), (80, .goto 4, 3), (83, .iconst 0, 1), (84, .ior, 1), (85, .istore_n 3, 1), (86, .iinc 4 1, 3)]
set_option maxRecDepth 20000 in
theorem dn_425_0_1_ok : dn_425_0_1.all (fun q => decide (decode (xm_b n_425) q.1 = .ok (q.2.1, q.2.2))) = true := xa_g_ok (by decide +kernel)
def dn_425_0_2 : List (Nat × Instr × Nat) := [(89, .goto (-46), 3), (92, .iload_n 3, 1), (93, .ifCond .eq 10, 3), (96, .aload_n 0, 1), (97, .invokevirtual 863, 3), (100, .ifCond .eq 6, 3), (103, .bipush (-3), 2), (105, .ireturn, 1), (106, .aload_n 0, 1), (107, .iload_n 1, 1), (108, .iload_n 2, 1), (109, .invokevirtual 735, 3), (112, .istore 4, 2), (114, .aload_n 0, 1), (115, .iconst 0, 1), (116, .iload_n 1, 1), (117, .iload_n 2, 1), (118, .iconst 0, 1), (119, .invokevirtual 866, 3), (122, .iload 4, 2), (124, .ireturn, 1)]
set_option maxRecDepth 20000 in
theorem dn_425_0_2_ok : dn_425_0_2.all (fun q => decide (decode (xm_b n_425) q.1 = .ok (q.2.1, q.2.2))) = true := xa_g_ok (by decide +kernel)
def te_425_0 : Nat → eE := (e_T 26 (e_T 11 (e_T 5 (e_T 1 (e_T 0 (e_L 0 (0, ei_load 0 2 1, 0, 0)) (e_L 1 (0, ei_load 1 0 2, 0, 0))) (e_T 2 (e_L 2 (2, e_nof, 270, 2)) (e_L 5 (0, ei_if1 0 26 8, 0, 0)))) (e_T 9 (e_T 8 (e_L 8 (0, ei_load 2 0 9, 0, 0)) (e_L 9 (0, ei_un (fun x => (4, x)) 10, 0, 0))) (e_T 10 (e_L 10 (0, ei_push (4, 0) 11, 0, 0)) (e_L 11 (0, ei_load 0 2 12, 0, 0))))) (e_T 17 (e_T 15 (e_T 12 (e_L 12 (0, ei_getf eft elay 12 75 15, 0, 0)) (e_L 15 (0, ei_load 1 0 16, 0, 0))) (e_T 16 (e_L 16 (0, ei_ald elay false 17, 0, 0)) (e_L 17 (0, ei_push (0, 1) 18, 0, 0)))) (e_T 19 (e_T 18 (e_L 18 (0, ei_bin eF_sub 19, 0, 0)) (e_L 19 (0, ei_un (fun x => (4, x)) 20, 0, 0))) (e_T 20 (e_L 20 (2, e_nof, 266, 3)) (e_T 23 (e_L 23 (0, ei_if1 1 28 26, 0, 0)) (e_L 26 (0, ei_push (0, (-1)) 27, 0, 0))))))) (e_T 40 (e_T 32 (e_T 28 (e_T 27 (e_L 27 (1, e_nof, 1, 0)) (e_L 28 (0, ei_load 0 2 29, 0, 0))) (e_T 29 (e_L 29 (0, ei_getf eft elay 12 3 32, 0, 0)) (e_L 32 (0, ei_if1 1 38 35, 0, 0)))) (e_T 37 (e_T 35 (e_L 35 (0, ei_push (0, (-2)) 37, 0, 0)) (e_L 37 (1, e_nof, 1, 0))) (e_T 38 (e_L 38 (0, ei_push (0, 0) 39, 0, 0)) (e_T 39 (e_L 39 (0, ei_stor 3 0 40, 0, 0)) (e_L 40 (0, ei_push (0, 0) 41, 0, 0)))))) (e_T 47 (e_T 43 (e_T 41 (e_L 41 (0, ei_stor 4 0 43, 0, 0)) (e_L 43 (0, ei_load 4 0 45, 0, 0))) (e_T 45 (e_L 45 (0, ei_push (0, 16) 47, 0, 0)) (e_L 47 (0, ei_if2 3 92 50, 0, 0)))) (e_T 51 (e_T 50 (e_L 50 (0, ei_load 3 0 51, 0, 0)) (e_L 51 (0, ei_load 0 2 52, 0, 0))) (e_T 52 (e_L 52 (0, ei_getf eft elay 12 0 55, 0, 0)) (e_T 55 (e_L 55 (0, ei_load 4 0 57, 0, 0)) (e_L 57 (2, e_nof, 269, 1))))))))
set_option maxRecDepth 20000 in
set_option maxHeartbeats 4000000 in
theorem te_425_0_ok : ∀ pc, e_EOq eft cls elay eI n_425 pc (te_425_0 pc) :=
  (e_Tok2
  (e_Tok2
  (e_Tok2
  (e_Tok2
  (e_Tok2
  (e_Lok (ld_aload_n_0 (x_dk dn_425_0_0_ok 0 rfl)))
  (e_Lok (ld_iload_n_1 (x_dk dn_425_0_0_ok 1 rfl))))
  (e_Tok2
  (e_Lok (lk_12_305 ho_425 (x_dk dn_425_0_0_ok 2 rfl)))
  (e_Lok (e_st (I := eI) (er_ifeq (off := 21) (tg := 26) (x_dk dn_425_0_0_ok 3 rfl) (by decide)) nx_if1))))
  (e_Tok2
  (e_Tok2
  (e_Lok (ld_iload_n_2 (x_dk dn_425_0_0_ok 4 rfl)))
  (e_Lok (e_st (I := eI) (er_i2l (x_dk dn_425_0_0_ok 5 rfl)) (nx_un (fun _ => rfl)))))
  (e_Tok2
  (e_Lok (ps_lconst_0 (x_dk dn_425_0_0_ok 6 rfl)))
  (e_Lok (ld_aload_n_0 (x_dk dn_425_0_0_ok 7 rfl))))))
  (e_Tok2
  (e_Tok2
  (e_Tok2
  (e_Lok (lk_12_201g ho_425 (x_dk dn_425_0_0_ok 8 rfl)))
  (e_Lok (ld_iload_n_1 (x_dk dn_425_0_0_ok 9 rfl))))
  (e_Tok2
  (e_Lok (sm_iaload (x_dk dn_425_0_0_ok 10 rfl)))
  (e_Lok (ps_iconst_1 (x_dk dn_425_0_0_ok 11 rfl)))))
  (e_Tok2
  (e_Tok2
  (e_Lok (sm_isub (x_dk dn_425_0_0_ok 12 rfl)))
  (e_Lok (e_st (I := eI) (er_i2l (x_dk dn_425_0_0_ok 13 rfl)) (nx_un (fun _ => rfl)))))
  (e_Tok2
  (e_Lok (lk_12_301 ho_425 (x_dk dn_425_0_0_ok 14 rfl)))
  (e_Tok2
  (e_Lok (e_st (I := eI) (er_ifne (off := 5) (tg := 28) (x_dk dn_425_0_0_ok 15 rfl) (by decide)) nx_if1))
  (e_Lok (ps_iconst_m1 (x_dk dn_425_0_0_ok 16 rfl))))))))
  (e_Tok2
  (e_Tok2
  (e_Tok2
  (e_Tok2
  (e_Lok (e_rt (I := eI) (k := 1) ⟨(x_dk dn_425_0_0_ok 17 rfl), rfl⟩))
  (e_Lok (ld_aload_n_0 (x_dk dn_425_0_0_ok 18 rfl))))
  (e_Tok2
  (e_Lok (lk_12_265g ho_425 (x_dk dn_425_0_0_ok 19 rfl)))
  (e_Lok (e_st (I := eI) (er_ifne (off := 6) (tg := 38) (x_dk dn_425_0_0_ok 20 rfl) (by decide)) nx_if1))))
  (e_Tok2
  (e_Tok2
  (e_Lok (ps_bipush_m2 (x_dk dn_425_0_0_ok 21 rfl)))
  (e_Lok (e_rt (I := eI) (k := 1) ⟨(x_dk dn_425_0_0_ok 22 rfl), rfl⟩)))
  (e_Tok2
  (e_Lok (ps_iconst_0 (x_dk dn_425_0_0_ok 23 rfl)))
  (e_Tok2
  (e_Lok (e_st (I := eI) (er_istore_n (i := 3) (x_dk dn_425_0_0_ok 24 rfl) (by decide +kernel)) nx_stor))
  (e_Lok (ps_iconst_0 (x_dk dn_425_0_1_ok 0 rfl)))))))
  (e_Tok2
  (e_Tok2
  (e_Tok2
  (e_Lok (e_st (I := eI) (er_istore (i := 4) (x_dk dn_425_0_1_ok 1 rfl) (by decide +kernel)) nx_stor))
  (e_Lok (ld_iload_4 (x_dk dn_425_0_1_ok 2 rfl))))
  (e_Tok2
  (e_Lok (ps_bipush_16 (x_dk dn_425_0_1_ok 3 rfl)))
  (e_Lok (e_st (I := eI) (er_icmpge (off := 45) (tg := 92) (x_dk dn_425_0_1_ok 4 rfl) (by decide)) nx_if2))))
  (e_Tok2
  (e_Tok2
  (e_Lok (ld_iload_n_3 (x_dk dn_425_0_1_ok 5 rfl)))
  (e_Lok (ld_aload_n_0 (x_dk dn_425_0_1_ok 6 rfl))))
  (e_Tok2
  (e_Lok (lk_12_8g ho_425 (x_dk dn_425_0_1_ok 7 rfl)))
  (e_Tok2
  (e_Lok (ld_iload_4 (x_dk dn_425_0_1_ok 8 rfl)))
  (e_Lok (lk_12_298 ho_425 (x_dk dn_425_0_1_ok 9 rfl)))))))))
def te_425_35 : Nat → eE := (e_T 93 (e_T 76 (e_T 65 (e_T 61 (e_T 60 (e_L 60 (0, ei_ald elay false 61, 0, 0)) (e_L 61 (0, ei_if1 0 79 64, 0, 0))) (e_T 64 (e_L 64 (0, ei_load 0 2 65, 0, 0)) (e_L 65 (0, ei_getf eft elay 12 0 68, 0, 0)))) (e_T 70 (e_T 68 (e_L 68 (0, ei_load 4 0 70, 0, 0)) (e_L 70 (2, e_nof, 269, 1))) (e_T 73 (e_L 73 (0, ei_ald elay false 74, 0, 0)) (e_T 74 (e_L 74 (0, ei_push (0, 6) 76, 0, 0)) (e_L 76 (0, ei_if2 1 83 79, 0, 0)))))) (e_T 84 (e_T 80 (e_T 79 (e_L 79 (0, ei_push (0, 1) 80, 0, 0)) (e_L 80 (0, ei_goto 84, 0, 0))) (e_T 83 (e_L 83 (0, ei_push (0, 0) 84, 0, 0)) (e_L 84 (0, ei_bin (eB (fun x y => x ||| y)) 85, 0, 0)))) (e_T 86 (e_T 85 (e_L 85 (0, ei_stor 3 0 86, 0, 0)) (e_L 86 (0, ei_inc 4 1 89, 0, 0))) (e_T 89 (e_L 89 (0, ei_goto 43, 0, 0)) (e_T 92 (e_L 92 (0, ei_load 3 0 93, 0, 0)) (e_L 93 (0, ei_if1 0 103 96, 0, 0))))))) (e_T 109 (e_T 103 (e_T 97 (e_T 96 (e_L 96 (0, ei_load 0 2 97, 0, 0)) (e_L 97 (2, e_nof, 422, 1))) (e_T 100 (e_L 100 (0, ei_if1 0 106 103, 0, 0)) (e_L 103 (0, ei_push (0, (-3)) 105, 0, 0)))) (e_T 106 (e_T 105 (e_L 105 (1, e_nof, 1, 0)) (e_L 106 (0, ei_load 0 2 107, 0, 0))) (e_T 107 (e_L 107 (0, ei_load 1 0 108, 0, 0)) (e_T 108 (e_L 108 (0, ei_load 2 0 109, 0, 0)) (e_L 109 (2, e_nof, 359, 3)))))) (e_T 116 (e_T 114 (e_T 112 (e_L 112 (0, ei_stor 4 0 114, 0, 0)) (e_L 114 (0, ei_load 0 2 115, 0, 0))) (e_T 115 (e_L 115 (0, ei_push (0, 0) 116, 0, 0)) (e_L 116 (0, ei_load 1 0 117, 0, 0)))) (e_T 118 (e_T 117 (e_L 117 (0, ei_load 2 0 118, 0, 0)) (e_L 118 (0, ei_push (0, 0) 119, 0, 0))) (e_T 119 (e_L 119 (2, e_nof, 423, 5)) (e_T 122 (e_L 122 (0, ei_load 4 0 124, 0, 0)) (e_L 124 (1, e_nof, 1, 0))))))))
set_option maxRecDepth 20000 in
set_option maxHeartbeats 4000000 in
theorem te_425_35_ok : ∀ pc, e_EOq eft cls elay eI n_425 pc (te_425_35 pc) :=
  (e_Tok2
  (e_Tok2
  (e_Tok2
  (e_Tok2
  (e_Tok2
  (e_Lok (sm_iaload (x_dk dn_425_0_1_ok 10 rfl)))
  (e_Lok (e_st (I := eI) (er_ifeq (off := 18) (tg := 79) (x_dk dn_425_0_1_ok 11 rfl) (by decide)) nx_if1)))
  (e_Tok2
  (e_Lok (ld_aload_n_0 (x_dk dn_425_0_1_ok 12 rfl)))
  (e_Lok (lk_12_8g ho_425 (x_dk dn_425_0_1_ok 13 rfl)))))
  (e_Tok2
  (e_Tok2
  (e_Lok (ld_iload_4 (x_dk dn_425_0_1_ok 14 rfl)))
  (e_Lok (lk_12_298 ho_425 (x_dk dn_425_0_1_ok 15 rfl))))
  (e_Tok2
  (e_Lok (sm_iaload (x_dk dn_425_0_1_ok 16 rfl)))
  (e_Tok2
  (e_Lok (ps_bipush_6 (x_dk dn_425_0_1_ok 17 rfl)))
  (e_Lok (e_st (I := eI) (er_icmpne (off := 7) (tg := 83) (x_dk dn_425_0_1_ok 18 rfl) (by decide)) nx_if2))))))
  (e_Tok2
  (e_Tok2
  (e_Tok2
  (e_Lok (ps_iconst_1 (x_dk dn_425_0_1_ok 19 rfl)))
  (e_Lok (e_st (I := eI) (er_goto (off := 4) (tg := 84) (x_dk dn_425_0_1_ok 20 rfl) (by decide)) nx_goto)))
  (e_Tok2
  (e_Lok (ps_iconst_0 (x_dk dn_425_0_1_ok 21 rfl)))
  (e_Lok (e_st (I := eI) (er_ior (x_dk dn_425_0_1_ok 22 rfl)) nx_bin))))
  (e_Tok2
  (e_Tok2
  (e_Lok (e_st (I := eI) (er_istore_n (i := 3) (x_dk dn_425_0_1_ok 23 rfl) (by decide +kernel)) nx_stor))
  (e_Lok (e_st (I := eI) (er_iinc (i := 4) (n := 1) (x_dk dn_425_0_1_ok 24 rfl) (by decide +kernel) (by decide)) nx_inc)))
  (e_Tok2
  (e_Lok (e_st (I := eI) (er_goto (off := (-46)) (tg := 43) (x_dk dn_425_0_2_ok 0 rfl) (by decide)) nx_goto))
  (e_Tok2
  (e_Lok (ld_iload_n_3 (x_dk dn_425_0_2_ok 1 rfl)))
  (e_Lok (e_st (I := eI) (er_ifeq (off := 10) (tg := 103) (x_dk dn_425_0_2_ok 2 rfl) (by decide)) nx_if1)))))))
  (e_Tok2
  (e_Tok2
  (e_Tok2
  (e_Tok2
  (e_Lok (ld_aload_n_0 (x_dk dn_425_0_2_ok 3 rfl)))
  (e_Lok (lk_12_863 ho_425 (x_dk dn_425_0_2_ok 4 rfl))))
  (e_Tok2
  (e_Lok (e_st (I := eI) (er_ifeq (off := 6) (tg := 106) (x_dk dn_425_0_2_ok 5 rfl) (by decide)) nx_if1))
  (e_Lok (ps_bipush_m3 (x_dk dn_425_0_2_ok 6 rfl)))))
  (e_Tok2
  (e_Tok2
  (e_Lok (e_rt (I := eI) (k := 1) ⟨(x_dk dn_425_0_2_ok 7 rfl), rfl⟩))
  (e_Lok (ld_aload_n_0 (x_dk dn_425_0_2_ok 8 rfl))))
  (e_Tok2
  (e_Lok (ld_iload_n_1 (x_dk dn_425_0_2_ok 9 rfl)))
  (e_Tok2
  (e_Lok (ld_iload_n_2 (x_dk dn_425_0_2_ok 10 rfl)))
  (e_Lok (lk_12_735 ho_425 (x_dk dn_425_0_2_ok 11 rfl)))))))
  (e_Tok2
  (e_Tok2
  (e_Tok2
  (e_Lok (e_st (I := eI) (er_istore (i := 4) (x_dk dn_425_0_2_ok 12 rfl) (by decide +kernel)) nx_stor))
  (e_Lok (ld_aload_n_0 (x_dk dn_425_0_2_ok 13 rfl))))
  (e_Tok2
  (e_Lok (ps_iconst_0 (x_dk dn_425_0_2_ok 14 rfl)))
  (e_Lok (ld_iload_n_1 (x_dk dn_425_0_2_ok 15 rfl)))))
  (e_Tok2
  (e_Tok2
  (e_Lok (ld_iload_n_2 (x_dk dn_425_0_2_ok 16 rfl)))
  (e_Lok (ps_iconst_0 (x_dk dn_425_0_2_ok 17 rfl))))
  (e_Tok2
  (e_Lok (lk_12_866 ho_425 (x_dk dn_425_0_2_ok 18 rfl)))
  (e_Tok2
  (e_Lok (ld_iload_4 (x_dk dn_425_0_2_ok 19 rfl)))
  (e_Lok (e_rt (I := eI) (k := 1) ⟨(x_dk dn_425_0_2_ok 20 rfl), rfl⟩))))))))
def te_425 : Nat → eE := (e_T 57 te_425_0 te_425_35)
theorem te_425_ok : ∀ pc, e_EOq eft cls elay eI n_425 pc (te_425 pc) := (e_Tok2 (te_425_0_ok) (te_425_35_ok))
theorem ho_426 : (xm_y n_426).cls = "RobotCellHouseModel" := rfl
def dn_426_0_0 : List (Nat × Instr × Nat) := [(0, .iload_n 1, 1), (1, .i2l, 1), (2, .lconst 1, 1), (3, .ldc2_w 365, 3), (6, .invokestatic 301, 3), (9, .ifCond .ne 5, 3), (12, .iconst (-1), 1), (13, .ireturn, 1), (14, .aload_n 0, 1), (15, .getfield 265, 3), (18, .ifCond .ne 6, 3), (21, .bipush (-2), 2), (23, .ireturn, 1), (24, .aload_n 0, 1), (25, .getfield 8, 3), (28, .iconst 0, 1), (29, .iaload, 1), (30, .sipush 6000, 3), (33, .if_icmp .eq 10, 3), (36, .aload_n 0, 1), (37, .invokevirtual 863, 3), (40, .ifCond .eq 6, 3), (43, .bipush (-3), 2), (45, .ireturn, 1), (46, .iload_n 1, 1)]
set_option maxRecDepth 20000 in
theorem dn_426_0_0_ok : dn_426_0_0.all (fun q => decide (decode (xm_b n_426) q.1 = .ok (q.2.1, q.2.2))) = true := xa_g_ok (by decide +kernel)
def dn_426_0_1 : List (Nat × Instr × Nat) := [(47, .sipush 6000, 3), (50, .aload_n 0, 1), (51, .getfield 8, 3), (54, .iconst 0, 1), (55, .iaload, 1), (56, .isub, 1), (57, .if_icmp .ge 7, 3), (60, .iload_n 1, 1), (61, .goto 13, 3), (64, .sipush 6000, 3), (67, .aload_n 0, 1), (68, .getfield 8, 3), (71, .iconst 0, 1), (72, .iaload, 1), (73, .isub, 1), (74, .istore_n 2, 1), (75, .iconst 0, 1), (76, .istore_n 3, 1), (77, .iload_n 3, 1), (78, .iload_n 2, 1), (79, .if_icmp .ge 13, 3), (82, .aload_n 0, 1), (83, .invokevirtual 873, 3), (86, .iinc 3 1, 3), (89, .goto (-12), 3)]
set_option maxRecDepth 20000 in
theorem dn_426_0_1_ok : dn_426_0_1.all (fun q => decide (decode (xm_b n_426) q.1 = .ok (q.2.1, q.2.2))) = true := xa_g_ok (by decide +kernel)
def dn_426_0_2 : List (Nat × Instr × Nat) := [(92, .aload_n 0, 1), (93, .iconst 1, 1), (94, .iload_n 1, 1), (95, .iconst 0, 1), (96, .iconst 0, 1), (97, .invokevirtual 866, 3), (100, .iload_n 2, 1), (101, .ireturn, 1)]
set_option maxRecDepth 20000 in
theorem dn_426_0_2_ok : dn_426_0_2.all (fun q => decide (decode (xm_b n_426) q.1 = .ok (q.2.1, q.2.2))) = true := xa_g_ok (by decide +kernel)
def te_426_0 : Nat → eE := (e_T 24 (e_T 12 (e_T 2 (e_T 0 (e_L 0 (0, ei_load 1 0 1, 0, 0)) (e_T 1 (e_L 1 (0, ei_un (fun x => (4, x)) 2, 0, 0)) (e_L 2 (0, ei_push (4, 1) 3, 0, 0)))) (e_T 6 (e_T 3 (e_L 3 (0, ei_push (4, 1000) 6, 0, 0)) (e_L 6 (2, e_nof, 266, 3))) (e_T 9 (e_L 9 (0, ei_if1 1 14 12, 0, 0)) (e_L 12 (0, ei_push (0, (-1)) 13, 0, 0))))) (e_T 15 (e_T 13 (e_L 13 (1, e_nof, 1, 0)) (e_T 14 (e_L 14 (0, ei_load 0 2 15, 0, 0)) (e_L 15 (0, ei_getf eft elay 12 3 18, 0, 0)))) (e_T 21 (e_T 18 (e_L 18 (0, ei_if1 1 24 21, 0, 0)) (e_L 21 (0, ei_push (0, (-2)) 23, 0, 0))) (e_T 23 (e_L 23 (1, e_nof, 1, 0)) (e_L 24 (0, ei_load 0 2 25, 0, 0)))))) (e_T 37 (e_T 29 (e_T 25 (e_L 25 (0, ei_getf eft elay 12 0 28, 0, 0)) (e_T 28 (e_L 28 (0, ei_push (0, 0) 29, 0, 0)) (e_L 29 (0, ei_ald elay false 30, 0, 0)))) (e_T 33 (e_T 30 (e_L 30 (0, ei_push (0, 6000) 33, 0, 0)) (e_L 33 (0, ei_if2 0 43 36, 0, 0))) (e_T 36 (e_L 36 (0, ei_load 0 2 37, 0, 0)) (e_L 37 (2, e_nof, 422, 1))))) (e_T 46 (e_T 43 (e_T 40 (e_L 40 (0, ei_if1 0 46 43, 0, 0)) (e_L 43 (0, ei_push (0, (-3)) 45, 0, 0))) (e_T 45 (e_L 45 (1, e_nof, 1, 0)) (e_L 46 (0, ei_load 1 0 47, 0, 0)))) (e_T 50 (e_T 47 (e_L 47 (0, ei_push (0, 6000) 50, 0, 0)) (e_L 50 (0, ei_load 0 2 51, 0, 0))) (e_T 51 (e_L 51 (0, ei_getf eft elay 12 0 54, 0, 0)) (e_L 54 (0, ei_push (0, 0) 55, 0, 0)))))))
set_option maxRecDepth 20000 in
set_option maxHeartbeats 4000000 in
theorem te_426_0_ok : ∀ pc, e_EOq eft cls elay eI n_426 pc (te_426_0 pc) :=
  (e_Tok2
  (e_Tok2
  (e_Tok2
  (e_Tok2
  (e_Lok (ld_iload_n_1 (x_dk dn_426_0_0_ok 0 rfl)))
  (e_Tok2
  (e_Lok (e_st (I := eI) (er_i2l (x_dk dn_426_0_0_ok 1 rfl)) (nx_un (fun _ => rfl))))
  (e_Lok (ps_lconst_1 (x_dk dn_426_0_0_ok 2 rfl)))))
  (e_Tok2
  (e_Tok2
  (e_Lok (e_st (I := eI) (er_ldc2 (ix := 365) (z := 1000) (v := 1000) (x_dk dn_426_0_0_ok 3 rfl) (in_t11 (List.mem_of_getElem? (i := 115) rfl) rfl) (by decide)) (nx_push (Or.inl rfl))))
  (e_Lok (lk_12_301 ho_426 (x_dk dn_426_0_0_ok 4 rfl))))
  (e_Tok2
  (e_Lok (e_st (I := eI) (er_ifne (off := 5) (tg := 14) (x_dk dn_426_0_0_ok 5 rfl) (by decide)) nx_if1))
  (e_Lok (ps_iconst_m1 (x_dk dn_426_0_0_ok 6 rfl))))))
  (e_Tok2
  (e_Tok2
  (e_Lok (e_rt (I := eI) (k := 1) ⟨(x_dk dn_426_0_0_ok 7 rfl), rfl⟩))
  (e_Tok2
  (e_Lok (ld_aload_n_0 (x_dk dn_426_0_0_ok 8 rfl)))
  (e_Lok (lk_12_265g ho_426 (x_dk dn_426_0_0_ok 9 rfl)))))
  (e_Tok2
  (e_Tok2
  (e_Lok (e_st (I := eI) (er_ifne (off := 6) (tg := 24) (x_dk dn_426_0_0_ok 10 rfl) (by decide)) nx_if1))
  (e_Lok (ps_bipush_m2 (x_dk dn_426_0_0_ok 11 rfl))))
  (e_Tok2
  (e_Lok (e_rt (I := eI) (k := 1) ⟨(x_dk dn_426_0_0_ok 12 rfl), rfl⟩))
  (e_Lok (ld_aload_n_0 (x_dk dn_426_0_0_ok 13 rfl)))))))
  (e_Tok2
  (e_Tok2
  (e_Tok2
  (e_Lok (lk_12_8g ho_426 (x_dk dn_426_0_0_ok 14 rfl)))
  (e_Tok2
  (e_Lok (ps_iconst_0 (x_dk dn_426_0_0_ok 15 rfl)))
  (e_Lok (sm_iaload (x_dk dn_426_0_0_ok 16 rfl)))))
  (e_Tok2
  (e_Tok2
  (e_Lok (ps_sipush_6000 (x_dk dn_426_0_0_ok 17 rfl)))
  (e_Lok (e_st (I := eI) (er_icmpeq (off := 10) (tg := 43) (x_dk dn_426_0_0_ok 18 rfl) (by decide)) nx_if2)))
  (e_Tok2
  (e_Lok (ld_aload_n_0 (x_dk dn_426_0_0_ok 19 rfl)))
  (e_Lok (lk_12_863 ho_426 (x_dk dn_426_0_0_ok 20 rfl))))))
  (e_Tok2
  (e_Tok2
  (e_Tok2
  (e_Lok (e_st (I := eI) (er_ifeq (off := 6) (tg := 46) (x_dk dn_426_0_0_ok 21 rfl) (by decide)) nx_if1))
  (e_Lok (ps_bipush_m3 (x_dk dn_426_0_0_ok 22 rfl))))
  (e_Tok2
  (e_Lok (e_rt (I := eI) (k := 1) ⟨(x_dk dn_426_0_0_ok 23 rfl), rfl⟩))
  (e_Lok (ld_iload_n_1 (x_dk dn_426_0_0_ok 24 rfl)))))
  (e_Tok2
  (e_Tok2
  (e_Lok (ps_sipush_6000 (x_dk dn_426_0_1_ok 0 rfl)))
  (e_Lok (ld_aload_n_0 (x_dk dn_426_0_1_ok 1 rfl))))
  (e_Tok2
  (e_Lok (lk_12_8g ho_426 (x_dk dn_426_0_1_ok 2 rfl)))
  (e_Lok (ps_iconst_0 (x_dk dn_426_0_1_ok 3 rfl))))))))
def te_426_29 : Nat → eE := (e_T 76 (e_T 67 (e_T 57 (e_T 55 (e_L 55 (0, ei_ald elay false 56, 0, 0)) (e_T 56 (e_L 56 (0, ei_bin eF_sub 57, 0, 0)) (e_L 57 (0, ei_if2 3 64 60, 0, 0)))) (e_T 61 (e_T 60 (e_L 60 (0, ei_load 1 0 61, 0, 0)) (e_L 61 (0, ei_goto 74, 0, 0))) (e_T 64 (e_L 64 (0, ei_push (0, 6000) 67, 0, 0)) (e_L 67 (0, ei_load 0 2 68, 0, 0))))) (e_T 72 (e_T 68 (e_L 68 (0, ei_getf eft elay 12 0 71, 0, 0)) (e_T 71 (e_L 71 (0, ei_push (0, 0) 72, 0, 0)) (e_L 72 (0, ei_ald elay false 73, 0, 0)))) (e_T 74 (e_T 73 (e_L 73 (0, ei_bin eF_sub 74, 0, 0)) (e_L 74 (0, ei_stor 2 0 75, 0, 0))) (e_T 75 (e_L 75 (0, ei_push (0, 0) 76, 0, 0)) (e_L 76 (0, ei_stor 3 0 77, 0, 0)))))) (e_T 89 (e_T 79 (e_T 77 (e_L 77 (0, ei_load 3 0 78, 0, 0)) (e_T 78 (e_L 78 (0, ei_load 2 0 79, 0, 0)) (e_L 79 (0, ei_if2 3 92 82, 0, 0)))) (e_T 83 (e_T 82 (e_L 82 (0, ei_load 0 2 83, 0, 0)) (e_L 83 (2, e_nof, 408, 1))) (e_T 86 (e_L 86 (0, ei_inc 3 1 89, 0, 0)) (e_L 89 (0, ei_goto 77, 0, 0))))) (e_T 95 (e_T 93 (e_T 92 (e_L 92 (0, ei_load 0 2 93, 0, 0)) (e_L 93 (0, ei_push (0, 1) 94, 0, 0))) (e_T 94 (e_L 94 (0, ei_load 1 0 95, 0, 0)) (e_L 95 (0, ei_push (0, 0) 96, 0, 0)))) (e_T 97 (e_T 96 (e_L 96 (0, ei_push (0, 0) 97, 0, 0)) (e_L 97 (2, e_nof, 423, 5))) (e_T 100 (e_L 100 (0, ei_load 2 0 101, 0, 0)) (e_L 101 (1, e_nof, 1, 0)))))))
set_option maxRecDepth 20000 in
set_option maxHeartbeats 4000000 in
theorem te_426_29_ok : ∀ pc, e_EOq eft cls elay eI n_426 pc (te_426_29 pc) :=
  (e_Tok2
  (e_Tok2
  (e_Tok2
  (e_Tok2
  (e_Lok (sm_iaload (x_dk dn_426_0_1_ok 4 rfl)))
  (e_Tok2
  (e_Lok (sm_isub (x_dk dn_426_0_1_ok 5 rfl)))
  (e_Lok (e_st (I := eI) (er_icmpge (off := 7) (tg := 64) (x_dk dn_426_0_1_ok 6 rfl) (by decide)) nx_if2))))
  (e_Tok2
  (e_Tok2
  (e_Lok (ld_iload_n_1 (x_dk dn_426_0_1_ok 7 rfl)))
  (e_Lok (e_st (I := eI) (er_goto (off := 13) (tg := 74) (x_dk dn_426_0_1_ok 8 rfl) (by decide)) nx_goto)))
  (e_Tok2
  (e_Lok (ps_sipush_6000 (x_dk dn_426_0_1_ok 9 rfl)))
  (e_Lok (ld_aload_n_0 (x_dk dn_426_0_1_ok 10 rfl))))))
  (e_Tok2
  (e_Tok2
  (e_Lok (lk_12_8g ho_426 (x_dk dn_426_0_1_ok 11 rfl)))
  (e_Tok2
  (e_Lok (ps_iconst_0 (x_dk dn_426_0_1_ok 12 rfl)))
  (e_Lok (sm_iaload (x_dk dn_426_0_1_ok 13 rfl)))))
  (e_Tok2
  (e_Tok2
  (e_Lok (sm_isub (x_dk dn_426_0_1_ok 14 rfl)))
  (e_Lok (e_st (I := eI) (er_istore_n (i := 2) (x_dk dn_426_0_1_ok 15 rfl) (by decide +kernel)) nx_stor)))
  (e_Tok2
  (e_Lok (ps_iconst_0 (x_dk dn_426_0_1_ok 16 rfl)))
  (e_Lok (e_st (I := eI) (er_istore_n (i := 3) (x_dk dn_426_0_1_ok 17 rfl) (by decide +kernel)) nx_stor))))))
  (e_Tok2
  (e_Tok2
  (e_Tok2
  (e_Lok (ld_iload_n_3 (x_dk dn_426_0_1_ok 18 rfl)))
  (e_Tok2
  (e_Lok (ld_iload_n_2 (x_dk dn_426_0_1_ok 19 rfl)))
  (e_Lok (e_st (I := eI) (er_icmpge (off := 13) (tg := 92) (x_dk dn_426_0_1_ok 20 rfl) (by decide)) nx_if2))))
  (e_Tok2
  (e_Tok2
  (e_Lok (ld_aload_n_0 (x_dk dn_426_0_1_ok 21 rfl)))
  (e_Lok (lk_12_873 ho_426 (x_dk dn_426_0_1_ok 22 rfl))))
  (e_Tok2
  (e_Lok (e_st (I := eI) (er_iinc (i := 3) (n := 1) (x_dk dn_426_0_1_ok 23 rfl) (by decide +kernel) (by decide)) nx_inc))
  (e_Lok (e_st (I := eI) (er_goto (off := (-12)) (tg := 77) (x_dk dn_426_0_1_ok 24 rfl) (by decide)) nx_goto)))))
  (e_Tok2
  (e_Tok2
  (e_Tok2
  (e_Lok (ld_aload_n_0 (x_dk dn_426_0_2_ok 0 rfl)))
  (e_Lok (ps_iconst_1 (x_dk dn_426_0_2_ok 1 rfl))))
  (e_Tok2
  (e_Lok (ld_iload_n_1 (x_dk dn_426_0_2_ok 2 rfl)))
  (e_Lok (ps_iconst_0 (x_dk dn_426_0_2_ok 3 rfl)))))
  (e_Tok2
  (e_Tok2
  (e_Lok (ps_iconst_0 (x_dk dn_426_0_2_ok 4 rfl)))
  (e_Lok (lk_12_866 ho_426 (x_dk dn_426_0_2_ok 5 rfl))))
  (e_Tok2
  (e_Lok (ld_iload_n_2 (x_dk dn_426_0_2_ok 6 rfl)))
  (e_Lok (e_rt (I := eI) (k := 1) ⟨(x_dk dn_426_0_2_ok 7 rfl), rfl⟩)))))))
def te_426 : Nat → eE := (e_T 54 te_426_0 te_426_29)
theorem te_426_ok : ∀ pc, e_EOq eft cls elay eI n_426 pc (te_426 pc) := (e_Tok2 (te_426_0_ok) (te_426_29_ok))
theorem ho_427 : (xm_y n_427).cls = "RobotCellHouseModel" := rfl
def dn_427_0_0 : List (Nat × Instr × Nat) := [(0, .aload_n 0, 1), (1, .iload_n 1, 1), (2, .invokevirtual 876, 3), (5, .ifCond .ne 5, 3), (8, .iconst (-1), 1), (9, .ireturn, 1), (10, .aload_n 0, 1), (11, .getfield 265, 3), (14, .ifCond .ne 6, 3), (17, .bipush (-2), 2), (19, .ireturn, 1), (20, .aload_n 0, 1), (21, .invokevirtual 863, 3), (24, .ifCond .eq 6, 3), (27, .bipush (-3), 2), (29, .ireturn, 1), (30, .aload_n 0, 1), (31, .getfield 8, 3), (34, .sipush 160, 3), (37, .iload_n 1, 1), (38, .iadd, 1), (39, .iaload, 1), (40, .istore_n 3, 1), (41, .aload_n 0, 1), (42, .iload_n 1, 1)]
set_option maxRecDepth 20000 in
theorem dn_427_0_0_ok : dn_427_0_0.all (fun q => decide (decode (xm_b n_427) q.1 = .ok (q.2.1, q.2.2))) = true := xa_g_ok (by decide +kernel)
def dn_427_0_1 : List (Nat × Instr × Nat) := [(43, .iload_n 2, 1), (44, .invokevirtual 729, 3), (47, .aload_n 0, 1), (48, .iconst 2, 1), (49, .iload_n 1, 1), (50, .iload_n 2, 1), (51, .iconst 0, 1), (52, .invokevirtual 866, 3), (55, .iload_n 3, 1), (56, .ireturn, 1)]
set_option maxRecDepth 20000 in
theorem dn_427_0_1_ok : dn_427_0_1.all (fun q => decide (decode (xm_b n_427) q.1 = .ok (q.2.1, q.2.2))) = true := xa_g_ok (by decide +kernel)
def te_427_0 : Nat → eE := (e_T 30 (e_T 11 (e_T 5 (e_T 1 (e_T 0 (e_L 0 (0, ei_load 0 2 1, 0, 0)) (e_L 1 (0, ei_load 1 0 2, 0, 0))) (e_T 2 (e_L 2 (2, e_nof, 424, 2)) (e_L 5 (0, ei_if1 1 10 8, 0, 0)))) (e_T 9 (e_T 8 (e_L 8 (0, ei_push (0, (-1)) 9, 0, 0)) (e_L 9 (1, e_nof, 1, 0))) (e_T 10 (e_L 10 (0, ei_load 0 2 11, 0, 0)) (e_L 11 (0, ei_getf eft elay 12 3 14, 0, 0))))) (e_T 20 (e_T 17 (e_T 14 (e_L 14 (0, ei_if1 1 20 17, 0, 0)) (e_L 17 (0, ei_push (0, (-2)) 19, 0, 0))) (e_T 19 (e_L 19 (1, e_nof, 1, 0)) (e_L 20 (0, ei_load 0 2 21, 0, 0)))) (e_T 24 (e_T 21 (e_L 21 (2, e_nof, 422, 1)) (e_L 24 (0, ei_if1 0 30 27, 0, 0))) (e_T 27 (e_L 27 (0, ei_push (0, (-3)) 29, 0, 0)) (e_T 29 (e_L 29 (1, e_nof, 1, 0)) (e_L 30 (0, ei_load 0 2 31, 0, 0))))))) (e_T 43 (e_T 38 (e_T 34 (e_T 31 (e_L 31 (0, ei_getf eft elay 12 0 34, 0, 0)) (e_L 34 (0, ei_push (0, 160) 37, 0, 0))) (e_T 37 (e_L 37 (0, ei_load 1 0 38, 0, 0)) (e_L 38 (0, ei_bin eF_add 39, 0, 0)))) (e_T 40 (e_T 39 (e_L 39 (0, ei_ald elay false 40, 0, 0)) (e_L 40 (0, ei_stor 3 0 41, 0, 0))) (e_T 41 (e_L 41 (0, ei_load 0 2 42, 0, 0)) (e_T 42 (e_L 42 (0, ei_load 1 0 43, 0, 0)) (e_L 43 (0, ei_load 2 0 44, 0, 0)))))) (e_T 49 (e_T 47 (e_T 44 (e_L 44 (2, e_nof, 323, 3)) (e_L 47 (0, ei_load 0 2 48, 0, 0))) (e_T 48 (e_L 48 (0, ei_push (0, 2) 49, 0, 0)) (e_L 49 (0, ei_load 1 0 50, 0, 0)))) (e_T 51 (e_T 50 (e_L 50 (0, ei_load 2 0 51, 0, 0)) (e_L 51 (0, ei_push (0, 0) 52, 0, 0))) (e_T 52 (e_L 52 (2, e_nof, 423, 5)) (e_T 55 (e_L 55 (0, ei_load 3 0 56, 0, 0)) (e_L 56 (1, e_nof, 1, 0))))))))
set_option maxRecDepth 20000 in
set_option maxHeartbeats 4000000 in
theorem te_427_0_ok : ∀ pc, e_EOq eft cls elay eI n_427 pc (te_427_0 pc) :=
  (e_Tok2
  (e_Tok2
  (e_Tok2
  (e_Tok2
  (e_Tok2
  (e_Lok (ld_aload_n_0 (x_dk dn_427_0_0_ok 0 rfl)))
  (e_Lok (ld_iload_n_1 (x_dk dn_427_0_0_ok 1 rfl))))
  (e_Tok2
  (e_Lok (lk_12_876 ho_427 (x_dk dn_427_0_0_ok 2 rfl)))
  (e_Lok (e_st (I := eI) (er_ifne (off := 5) (tg := 10) (x_dk dn_427_0_0_ok 3 rfl) (by decide)) nx_if1))))
  (e_Tok2
  (e_Tok2
  (e_Lok (ps_iconst_m1 (x_dk dn_427_0_0_ok 4 rfl)))
  (e_Lok (e_rt (I := eI) (k := 1) ⟨(x_dk dn_427_0_0_ok 5 rfl), rfl⟩)))
  (e_Tok2
  (e_Lok (ld_aload_n_0 (x_dk dn_427_0_0_ok 6 rfl)))
  (e_Lok (lk_12_265g ho_427 (x_dk dn_427_0_0_ok 7 rfl))))))
  (e_Tok2
  (e_Tok2
  (e_Tok2
  (e_Lok (e_st (I := eI) (er_ifne (off := 6) (tg := 20) (x_dk dn_427_0_0_ok 8 rfl) (by decide)) nx_if1))
  (e_Lok (ps_bipush_m2 (x_dk dn_427_0_0_ok 9 rfl))))
  (e_Tok2
  (e_Lok (e_rt (I := eI) (k := 1) ⟨(x_dk dn_427_0_0_ok 10 rfl), rfl⟩))
  (e_Lok (ld_aload_n_0 (x_dk dn_427_0_0_ok 11 rfl)))))
  (e_Tok2
  (e_Tok2
  (e_Lok (lk_12_863 ho_427 (x_dk dn_427_0_0_ok 12 rfl)))
  (e_Lok (e_st (I := eI) (er_ifeq (off := 6) (tg := 30) (x_dk dn_427_0_0_ok 13 rfl) (by decide)) nx_if1)))
  (e_Tok2
  (e_Lok (ps_bipush_m3 (x_dk dn_427_0_0_ok 14 rfl)))
  (e_Tok2
  (e_Lok (e_rt (I := eI) (k := 1) ⟨(x_dk dn_427_0_0_ok 15 rfl), rfl⟩))
  (e_Lok (ld_aload_n_0 (x_dk dn_427_0_0_ok 16 rfl))))))))
  (e_Tok2
  (e_Tok2
  (e_Tok2
  (e_Tok2
  (e_Lok (lk_12_8g ho_427 (x_dk dn_427_0_0_ok 17 rfl)))
  (e_Lok (ps_sipush_160 (x_dk dn_427_0_0_ok 18 rfl))))
  (e_Tok2
  (e_Lok (ld_iload_n_1 (x_dk dn_427_0_0_ok 19 rfl)))
  (e_Lok (sm_iadd (x_dk dn_427_0_0_ok 20 rfl)))))
  (e_Tok2
  (e_Tok2
  (e_Lok (sm_iaload (x_dk dn_427_0_0_ok 21 rfl)))
  (e_Lok (e_st (I := eI) (er_istore_n (i := 3) (x_dk dn_427_0_0_ok 22 rfl) (by decide +kernel)) nx_stor)))
  (e_Tok2
  (e_Lok (ld_aload_n_0 (x_dk dn_427_0_0_ok 23 rfl)))
  (e_Tok2
  (e_Lok (ld_iload_n_1 (x_dk dn_427_0_0_ok 24 rfl)))
  (e_Lok (ld_iload_n_2 (x_dk dn_427_0_1_ok 0 rfl)))))))
  (e_Tok2
  (e_Tok2
  (e_Tok2
  (e_Lok (lk_12_729 ho_427 (x_dk dn_427_0_1_ok 1 rfl)))
  (e_Lok (ld_aload_n_0 (x_dk dn_427_0_1_ok 2 rfl))))
  (e_Tok2
  (e_Lok (ps_iconst_2 (x_dk dn_427_0_1_ok 3 rfl)))
  (e_Lok (ld_iload_n_1 (x_dk dn_427_0_1_ok 4 rfl)))))
  (e_Tok2
  (e_Tok2
  (e_Lok (ld_iload_n_2 (x_dk dn_427_0_1_ok 5 rfl)))
  (e_Lok (ps_iconst_0 (x_dk dn_427_0_1_ok 6 rfl))))
  (e_Tok2
  (e_Lok (lk_12_866 ho_427 (x_dk dn_427_0_1_ok 7 rfl)))
  (e_Tok2
  (e_Lok (ld_iload_n_3 (x_dk dn_427_0_1_ok 8 rfl)))
  (e_Lok (e_rt (I := eI) (k := 1) ⟨(x_dk dn_427_0_1_ok 9 rfl), rfl⟩))))))))
def te_427 : Nat → eE := te_427_0
theorem te_427_ok : ∀ pc, e_EOq eft cls elay eI n_427 pc (te_427 pc) := te_427_0_ok
end
end
-- part 41bk
section
noncomputable section
theorem ho_428 : (xm_y n_428).cls = "RobotCellHouseModel" := rfl
def dn_428_0_0 : List (Nat × Instr × Nat) := [(0, .aload_n 0, 1), (1, .iload_n 1, 1), (2, .invokevirtual 876, 3), (5, .ifCond .ne 5, 3), (8, .iconst (-1), 1), (9, .ireturn, 1), (10, .aload_n 0, 1), (11, .getfield 265, 3), (14, .ifCond .ne 6, 3), (17, .bipush (-2), 2), (19, .ireturn, 1), (20, .aload_n 0, 1), (21, .invokevirtual 863, 3), (24, .ifCond .eq 6, 3), (27, .bipush (-3), 2), (29, .ireturn, 1), (30, .aload_n 0, 1), (31, .getfield 8, 3), (34, .sipush 224, 3), (37, .iload_n 1, 1), (38, .iadd, 1), (39, .iaload, 1), (40, .istore 4, 2), (42, .aload_n 0, 1), (43, .invokevirtual 467, 3)]
set_option maxRecDepth 20000 in
theorem dn_428_0_0_ok : dn_428_0_0.all (fun q => decide (decode (xm_b n_428) q.1 = .ok (q.2.1, q.2.2))) = true := xa_g_ok (by decide +kernel)
def dn_428_0_1 : List (Nat × Instr × Nat) := [(46, .aload_n 0, 1), (47, .getfield 8, 3), (50, .sipush 224, 3), (53, .iload_n 1, 1), (54, .iadd, 1), (55, .iload_n 3, 1), (56, .ifCond .eq 7, 3), (59, .iconst 1, 1), (60, .goto 4, 3), (63, .iconst 0, 1), (64, .iastore, 1), (65, .aload_n 0, 1), (66, .getfield 8, 3), (69, .sipush 288, 3), (72, .iload_n 1, 1), (73, .iadd, 1), (74, .iload_n 3, 1), (75, .ifCond .eq 7, 3), (78, .iload_n 2, 1), (79, .goto 4, 3), (82, .iconst 0, 1), (83, .iastore, 1), (84, .aload_n 0, 1), (85, .invokevirtual 470, 3), (88, .aload_n 0, 1)]
set_option maxRecDepth 20000 in
theorem dn_428_0_1_ok : dn_428_0_1.all (fun q => decide (decode (xm_b n_428) q.1 = .ok (q.2.1, q.2.2))) = true := xa_g_ok (by decide +kernel)
def dn_428_0_2 : List (Nat × Instr × Nat) := [(89, .iconst 3, 1), (90, .iload_n 1, 1), (91, .iload_n 2, 1), (92, .iload_n 3, 1), (93, .ifCond .eq 7, 3), (96, .iconst 1, 1), (97, .goto 4, 3), (100, .iconst 0, 1), (101, .invokevirtual 866, 3), (104, .iload 4, 2), (106, .ireturn, 1)]
set_option maxRecDepth 20000 in
theorem dn_428_0_2_ok : dn_428_0_2.all (fun q => decide (decode (xm_b n_428) q.1 = .ok (q.2.1, q.2.2))) = true := xa_g_ok (by decide +kernel)
def te_428_0 : Nat → eE := (e_T 27 (e_T 10 (e_T 2 (e_T 0 (e_L 0 (0, ei_load 0 2 1, 0, 0)) (e_T 1 (e_L 1 (0, ei_load 1 0 2, 0, 0)) (e_L 2 (2, e_nof, 424, 2)))) (e_T 8 (e_T 5 (e_L 5 (0, ei_if1 1 10 8, 0, 0)) (e_L 8 (0, ei_push (0, (-1)) 9, 0, 0))) (e_T 9 (e_L 9 (1, e_nof, 1, 0)) (e_L 10 (0, ei_load 0 2 11, 0, 0))))) (e_T 19 (e_T 14 (e_T 11 (e_L 11 (0, ei_getf eft elay 12 3 14, 0, 0)) (e_L 14 (0, ei_if1 1 20 17, 0, 0))) (e_T 17 (e_L 17 (0, ei_push (0, (-2)) 19, 0, 0)) (e_L 19 (1, e_nof, 1, 0)))) (e_T 21 (e_T 20 (e_L 20 (0, ei_load 0 2 21, 0, 0)) (e_L 21 (2, e_nof, 422, 1))) (e_T 24 (e_L 24 (0, ei_if1 0 30 27, 0, 0)) (e_L 27 (0, ei_push (0, (-3)) 29, 0, 0)))))) (e_T 39 (e_T 31 (e_T 29 (e_L 29 (1, e_nof, 1, 0)) (e_T 30 (e_L 30 (0, ei_load 0 2 31, 0, 0)) (e_L 31 (0, ei_getf eft elay 12 0 34, 0, 0)))) (e_T 37 (e_T 34 (e_L 34 (0, ei_push (0, 224) 37, 0, 0)) (e_L 37 (0, ei_load 1 0 38, 0, 0))) (e_T 38 (e_L 38 (0, ei_bin eF_add 39, 0, 0)) (e_L 39 (0, ei_ald elay false 40, 0, 0))))) (e_T 46 (e_T 42 (e_T 40 (e_L 40 (0, ei_stor 4 0 42, 0, 0)) (e_L 42 (0, ei_load 0 2 43, 0, 0))) (e_T 43 (e_L 43 (2, e_nof, 321, 1)) (e_L 46 (0, ei_load 0 2 47, 0, 0)))) (e_T 50 (e_T 47 (e_L 47 (0, ei_getf eft elay 12 0 50, 0, 0)) (e_L 50 (0, ei_push (0, 224) 53, 0, 0))) (e_T 53 (e_L 53 (0, ei_load 1 0 54, 0, 0)) (e_L 54 (0, ei_bin eF_add 55, 0, 0)))))))
set_option maxRecDepth 20000 in
set_option maxHeartbeats 4000000 in
theorem te_428_0_ok : ∀ pc, e_EOq eft cls elay eI n_428 pc (te_428_0 pc) :=
  (e_Tok2
  (e_Tok2
  (e_Tok2
  (e_Tok2
  (e_Lok (ld_aload_n_0 (x_dk dn_428_0_0_ok 0 rfl)))
  (e_Tok2
  (e_Lok (ld_iload_n_1 (x_dk dn_428_0_0_ok 1 rfl)))
  (e_Lok (lk_12_876 ho_428 (x_dk dn_428_0_0_ok 2 rfl)))))
  (e_Tok2
  (e_Tok2
  (e_Lok (e_st (I := eI) (er_ifne (off := 5) (tg := 10) (x_dk dn_428_0_0_ok 3 rfl) (by decide)) nx_if1))
  (e_Lok (ps_iconst_m1 (x_dk dn_428_0_0_ok 4 rfl))))
  (e_Tok2
  (e_Lok (e_rt (I := eI) (k := 1) ⟨(x_dk dn_428_0_0_ok 5 rfl), rfl⟩))
  (e_Lok (ld_aload_n_0 (x_dk dn_428_0_0_ok 6 rfl))))))
  (e_Tok2
  (e_Tok2
  (e_Tok2
  (e_Lok (lk_12_265g ho_428 (x_dk dn_428_0_0_ok 7 rfl)))
  (e_Lok (e_st (I := eI) (er_ifne (off := 6) (tg := 20) (x_dk dn_428_0_0_ok 8 rfl) (by decide)) nx_if1)))
  (e_Tok2
  (e_Lok (ps_bipush_m2 (x_dk dn_428_0_0_ok 9 rfl)))
  (e_Lok (e_rt (I := eI) (k := 1) ⟨(x_dk dn_428_0_0_ok 10 rfl), rfl⟩))))
  (e_Tok2
  (e_Tok2
  (e_Lok (ld_aload_n_0 (x_dk dn_428_0_0_ok 11 rfl)))
  (e_Lok (lk_12_863 ho_428 (x_dk dn_428_0_0_ok 12 rfl))))
  (e_Tok2
  (e_Lok (e_st (I := eI) (er_ifeq (off := 6) (tg := 30) (x_dk dn_428_0_0_ok 13 rfl) (by decide)) nx_if1))
  (e_Lok (ps_bipush_m3 (x_dk dn_428_0_0_ok 14 rfl)))))))
  (e_Tok2
  (e_Tok2
  (e_Tok2
  (e_Lok (e_rt (I := eI) (k := 1) ⟨(x_dk dn_428_0_0_ok 15 rfl), rfl⟩))
  (e_Tok2
  (e_Lok (ld_aload_n_0 (x_dk dn_428_0_0_ok 16 rfl)))
  (e_Lok (lk_12_8g ho_428 (x_dk dn_428_0_0_ok 17 rfl)))))
  (e_Tok2
  (e_Tok2
  (e_Lok (ps_sipush_224 (x_dk dn_428_0_0_ok 18 rfl)))
  (e_Lok (ld_iload_n_1 (x_dk dn_428_0_0_ok 19 rfl))))
  (e_Tok2
  (e_Lok (sm_iadd (x_dk dn_428_0_0_ok 20 rfl)))
  (e_Lok (sm_iaload (x_dk dn_428_0_0_ok 21 rfl))))))
  (e_Tok2
  (e_Tok2
  (e_Tok2
  (e_Lok (e_st (I := eI) (er_istore (i := 4) (x_dk dn_428_0_0_ok 22 rfl) (by decide +kernel)) nx_stor))
  (e_Lok (ld_aload_n_0 (x_dk dn_428_0_0_ok 23 rfl))))
  (e_Tok2
  (e_Lok (lk_12_467 ho_428 (x_dk dn_428_0_0_ok 24 rfl)))
  (e_Lok (ld_aload_n_0 (x_dk dn_428_0_1_ok 0 rfl)))))
  (e_Tok2
  (e_Tok2
  (e_Lok (lk_12_8g ho_428 (x_dk dn_428_0_1_ok 1 rfl)))
  (e_Lok (ps_sipush_224 (x_dk dn_428_0_1_ok 2 rfl))))
  (e_Tok2
  (e_Lok (ld_iload_n_1 (x_dk dn_428_0_1_ok 3 rfl)))
  (e_Lok (sm_iadd (x_dk dn_428_0_1_ok 4 rfl))))))))
def te_428_30 : Nat → eE := (e_T 79 (e_T 65 (e_T 59 (e_T 55 (e_L 55 (0, ei_load 3 0 56, 0, 0)) (e_T 56 (e_L 56 (0, ei_if1 0 63 59, 0, 0)) (e_L 59 (0, ei_push (0, 1) 60, 0, 0)))) (e_T 63 (e_T 60 (e_L 60 (0, ei_goto 64, 0, 0)) (e_L 63 (0, ei_push (0, 0) 64, 0, 0))) (e_T 64 (e_L 64 (0, ei_ast elay false 65, 0, 0)) (e_L 65 (0, ei_load 0 2 66, 0, 0))))) (e_T 73 (e_T 69 (e_T 66 (e_L 66 (0, ei_getf eft elay 12 0 69, 0, 0)) (e_L 69 (0, ei_push (0, 288) 72, 0, 0))) (e_T 72 (e_L 72 (0, ei_load 1 0 73, 0, 0)) (e_L 73 (0, ei_bin eF_add 74, 0, 0)))) (e_T 75 (e_T 74 (e_L 74 (0, ei_load 3 0 75, 0, 0)) (e_L 75 (0, ei_if1 0 82 78, 0, 0))) (e_T 78 (e_L 78 (0, ei_load 2 0 79, 0, 0)) (e_L 79 (0, ei_goto 83, 0, 0)))))) (e_T 91 (e_T 85 (e_T 83 (e_T 82 (e_L 82 (0, ei_push (0, 0) 83, 0, 0)) (e_L 83 (0, ei_ast elay false 84, 0, 0))) (e_T 84 (e_L 84 (0, ei_load 0 2 85, 0, 0)) (e_L 85 (2, e_nof, 322, 1)))) (e_T 89 (e_T 88 (e_L 88 (0, ei_load 0 2 89, 0, 0)) (e_L 89 (0, ei_push (0, 3) 90, 0, 0))) (e_T 90 (e_L 90 (0, ei_load 1 0 91, 0, 0)) (e_L 91 (0, ei_load 2 0 92, 0, 0))))) (e_T 97 (e_T 93 (e_T 92 (e_L 92 (0, ei_load 3 0 93, 0, 0)) (e_L 93 (0, ei_if1 0 100 96, 0, 0))) (e_T 96 (e_L 96 (0, ei_push (0, 1) 97, 0, 0)) (e_L 97 (0, ei_goto 101, 0, 0)))) (e_T 101 (e_T 100 (e_L 100 (0, ei_push (0, 0) 101, 0, 0)) (e_L 101 (2, e_nof, 423, 5))) (e_T 104 (e_L 104 (0, ei_load 4 0 106, 0, 0)) (e_L 106 (1, e_nof, 1, 0)))))))
set_option maxRecDepth 20000 in
set_option maxHeartbeats 4000000 in
theorem te_428_30_ok : ∀ pc, e_EOq eft cls elay eI n_428 pc (te_428_30 pc) :=
  (e_Tok2
  (e_Tok2
  (e_Tok2
  (e_Tok2
  (e_Lok (ld_iload_n_3 (x_dk dn_428_0_1_ok 5 rfl)))
  (e_Tok2
  (e_Lok (e_st (I := eI) (er_ifeq (off := 7) (tg := 63) (x_dk dn_428_0_1_ok 6 rfl) (by decide)) nx_if1))
  (e_Lok (ps_iconst_1 (x_dk dn_428_0_1_ok 7 rfl)))))
  (e_Tok2
  (e_Tok2
  (e_Lok (e_st (I := eI) (er_goto (off := 4) (tg := 64) (x_dk dn_428_0_1_ok 8 rfl) (by decide)) nx_goto))
  (e_Lok (ps_iconst_0 (x_dk dn_428_0_1_ok 9 rfl))))
  (e_Tok2
  (e_Lok (sm_iastore (x_dk dn_428_0_1_ok 10 rfl)))
  (e_Lok (ld_aload_n_0 (x_dk dn_428_0_1_ok 11 rfl))))))
  (e_Tok2
  (e_Tok2
  (e_Tok2
  (e_Lok (lk_12_8g ho_428 (x_dk dn_428_0_1_ok 12 rfl)))
  (e_Lok (ps_sipush_288 (x_dk dn_428_0_1_ok 13 rfl))))
  (e_Tok2
  (e_Lok (ld_iload_n_1 (x_dk dn_428_0_1_ok 14 rfl)))
  (e_Lok (sm_iadd (x_dk dn_428_0_1_ok 15 rfl)))))
  (e_Tok2
  (e_Tok2
  (e_Lok (ld_iload_n_3 (x_dk dn_428_0_1_ok 16 rfl)))
  (e_Lok (e_st (I := eI) (er_ifeq (off := 7) (tg := 82) (x_dk dn_428_0_1_ok 17 rfl) (by decide)) nx_if1)))
  (e_Tok2
  (e_Lok (ld_iload_n_2 (x_dk dn_428_0_1_ok 18 rfl)))
  (e_Lok (e_st (I := eI) (er_goto (off := 4) (tg := 83) (x_dk dn_428_0_1_ok 19 rfl) (by decide)) nx_goto))))))
  (e_Tok2
  (e_Tok2
  (e_Tok2
  (e_Tok2
  (e_Lok (ps_iconst_0 (x_dk dn_428_0_1_ok 20 rfl)))
  (e_Lok (sm_iastore (x_dk dn_428_0_1_ok 21 rfl))))
  (e_Tok2
  (e_Lok (ld_aload_n_0 (x_dk dn_428_0_1_ok 22 rfl)))
  (e_Lok (lk_12_470 ho_428 (x_dk dn_428_0_1_ok 23 rfl)))))
  (e_Tok2
  (e_Tok2
  (e_Lok (ld_aload_n_0 (x_dk dn_428_0_1_ok 24 rfl)))
  (e_Lok (ps_iconst_3 (x_dk dn_428_0_2_ok 0 rfl))))
  (e_Tok2
  (e_Lok (ld_iload_n_1 (x_dk dn_428_0_2_ok 1 rfl)))
  (e_Lok (ld_iload_n_2 (x_dk dn_428_0_2_ok 2 rfl))))))
  (e_Tok2
  (e_Tok2
  (e_Tok2
  (e_Lok (ld_iload_n_3 (x_dk dn_428_0_2_ok 3 rfl)))
  (e_Lok (e_st (I := eI) (er_ifeq (off := 7) (tg := 100) (x_dk dn_428_0_2_ok 4 rfl) (by decide)) nx_if1)))
  (e_Tok2
  (e_Lok (ps_iconst_1 (x_dk dn_428_0_2_ok 5 rfl)))
  (e_Lok (e_st (I := eI) (er_goto (off := 4) (tg := 101) (x_dk dn_428_0_2_ok 6 rfl) (by decide)) nx_goto))))
  (e_Tok2
  (e_Tok2
  (e_Lok (ps_iconst_0 (x_dk dn_428_0_2_ok 7 rfl)))
  (e_Lok (lk_12_866 ho_428 (x_dk dn_428_0_2_ok 8 rfl))))
  (e_Tok2
  (e_Lok (ld_iload_4 (x_dk dn_428_0_2_ok 9 rfl)))
  (e_Lok (e_rt (I := eI) (k := 1) ⟨(x_dk dn_428_0_2_ok 10 rfl), rfl⟩)))))))
def te_428 : Nat → eE := (e_T 54 te_428_0 te_428_30)
theorem te_428_ok : ∀ pc, e_EOq eft cls elay eI n_428 pc (te_428 pc) := (e_Tok2 (te_428_0_ok) (te_428_30_ok))
theorem ho_429 : (xm_y n_429).cls = "RobotCellHouseModel" := rfl
def dn_429_0_0 : List (Nat × Instr × Nat) := [(0, .iload_n 1, 1), (1, .i2l, 1), (2, .lconst 0, 1), (3, .aload_n 0, 1), (4, .getfield 285, 3), (7, .iconst 1, 1), (8, .isub, 1), (9, .i2l, 1), (10, .invokestatic 301, 3), (13, .ifCond .ne 5, 3), (16, .iconst (-1), 1), (17, .ireturn, 1), (18, .aload_n 0, 1), (19, .getfield 265, 3), (22, .ifCond .ne 6, 3), (25, .bipush (-2), 2), (27, .ireturn, 1), (28, .aload_n 0, 1), (29, .invokevirtual 863, 3), (32, .ifCond .eq 6, 3), (35, .bipush (-3), 2), (37, .ireturn, 1), (38, .aload_n 0, 1), (39, .getfield 8, 3), (42, .sipush 20836, 3)]
set_option maxRecDepth 20000 in
theorem dn_429_0_0_ok : dn_429_0_0.all (fun q => decide (decode (xm_b n_429) q.1 = .ok (q.2.1, q.2.2))) = true := xa_g_ok (by decide +kernel)
def dn_429_0_1 : List (Nat × Instr × Nat) := [(45, .iconst 4, 1), (46, .iload_n 1, 1), (47, .imul, 1), (48, .iadd, 1), (49, .iload_n 2, 1), (50, .ifCond .eq 7, 3), (53, .iconst 1, 1), (54, .goto 4, 3), (57, .iconst 0, 1), (58, .iastore, 1), (59, .aload_n 0, 1), (60, .getfield 8, 3), (63, .sipush 20836, 3), (66, .iconst 4, 1), (67, .iload_n 1, 1), (68, .imul, 1), (69, .iadd, 1), (70, .iconst 1, 1), (71, .iadd, 1), (72, .iload_n 3, 1), (73, .ifCond .eq 7, 3), (76, .iconst 1, 1), (77, .goto 4, 3), (80, .iconst 0, 1), (81, .iastore, 1)]
set_option maxRecDepth 20000 in
theorem dn_429_0_1_ok : dn_429_0_1.all (fun q => decide (decode (xm_b n_429) q.1 = .ok (q.2.1, q.2.2))) = true := xa_g_ok (by decide +kernel)
def dn_429_0_2 : List (Nat × Instr × Nat) := [(82, .aload_n 0, 1), (83, .iconst 4, 1), (84, .iload_n 1, 1), (85, .iload_n 2, 1), (86, .ifCond .eq 7, 3), (89, .iconst 1, 1), (90, .goto 4, 3), (93, .iconst 0, 1), (94, .iload_n 3, 1), (95, .ifCond .eq 7, 3), (98, .iconst 1, 1), (99, .goto 4, 3), (102, .iconst 0, 1), (103, .invokevirtual 866, 3), (106, .iconst 0, 1), (107, .ireturn, 1)]
set_option maxRecDepth 20000 in
theorem dn_429_0_2_ok : dn_429_0_2.all (fun q => decide (decode (xm_b n_429) q.1 = .ok (q.2.1, q.2.2))) = true := xa_g_ok (by decide +kernel)
def te_429_0 : Nat → eE := (e_T 25 (e_T 9 (e_T 3 (e_T 1 (e_T 0 (e_L 0 (0, ei_load 1 0 1, 0, 0)) (e_L 1 (0, ei_un (fun x => (4, x)) 2, 0, 0))) (e_T 2 (e_L 2 (0, ei_push (4, 0) 3, 0, 0)) (e_L 3 (0, ei_load 0 2 4, 0, 0)))) (e_T 7 (e_T 4 (e_L 4 (0, ei_getf eft elay 12 49 7, 0, 0)) (e_L 7 (0, ei_push (0, 1) 8, 0, 0))) (e_T 8 (e_L 8 (0, ei_bin eF_sub 9, 0, 0)) (e_L 9 (0, ei_un (fun x => (4, x)) 10, 0, 0))))) (e_T 17 (e_T 13 (e_T 10 (e_L 10 (2, e_nof, 266, 3)) (e_L 13 (0, ei_if1 1 18 16, 0, 0))) (e_T 16 (e_L 16 (0, ei_push (0, (-1)) 17, 0, 0)) (e_L 17 (1, e_nof, 1, 0)))) (e_T 19 (e_T 18 (e_L 18 (0, ei_load 0 2 19, 0, 0)) (e_L 19 (0, ei_getf eft elay 12 3 22, 0, 0))) (e_T 22 (e_L 22 (0, ei_if1 1 28 25, 0, 0)) (e_L 25 (0, ei_push (0, (-2)) 27, 0, 0)))))) (e_T 39 (e_T 32 (e_T 28 (e_T 27 (e_L 27 (1, e_nof, 1, 0)) (e_L 28 (0, ei_load 0 2 29, 0, 0))) (e_T 29 (e_L 29 (2, e_nof, 422, 1)) (e_L 32 (0, ei_if1 0 38 35, 0, 0)))) (e_T 37 (e_T 35 (e_L 35 (0, ei_push (0, (-3)) 37, 0, 0)) (e_L 37 (1, e_nof, 1, 0))) (e_T 38 (e_L 38 (0, ei_load 0 2 39, 0, 0)) (e_L 39 (0, ei_getf eft elay 12 0 42, 0, 0))))) (e_T 47 (e_T 45 (e_T 42 (e_L 42 (0, ei_push (0, 20836) 45, 0, 0)) (e_L 45 (0, ei_push (0, 4) 46, 0, 0))) (e_T 46 (e_L 46 (0, ei_load 1 0 47, 0, 0)) (e_L 47 (0, ei_bin eF_mul 48, 0, 0)))) (e_T 49 (e_T 48 (e_L 48 (0, ei_bin eF_add 49, 0, 0)) (e_L 49 (0, ei_load 2 0 50, 0, 0))) (e_T 50 (e_L 50 (0, ei_if1 0 57 53, 0, 0)) (e_T 53 (e_L 53 (0, ei_push (0, 1) 54, 0, 0)) (e_L 54 (0, ei_goto 58, 0, 0))))))))
set_option maxRecDepth 20000 in
set_option maxHeartbeats 4000000 in
theorem te_429_0_ok : ∀ pc, e_EOq eft cls elay eI n_429 pc (te_429_0 pc) :=
  (e_Tok2
  (e_Tok2
  (e_Tok2
  (e_Tok2
  (e_Tok2
  (e_Lok (ld_iload_n_1 (x_dk dn_429_0_0_ok 0 rfl)))
  (e_Lok (e_st (I := eI) (er_i2l (x_dk dn_429_0_0_ok 1 rfl)) (nx_un (fun _ => rfl)))))
  (e_Tok2
  (e_Lok (ps_lconst_0 (x_dk dn_429_0_0_ok 2 rfl)))
  (e_Lok (ld_aload_n_0 (x_dk dn_429_0_0_ok 3 rfl)))))
  (e_Tok2
  (e_Tok2
  (e_Lok (lk_12_285g ho_429 (x_dk dn_429_0_0_ok 4 rfl)))
  (e_Lok (ps_iconst_1 (x_dk dn_429_0_0_ok 5 rfl))))
  (e_Tok2
  (e_Lok (sm_isub (x_dk dn_429_0_0_ok 6 rfl)))
  (e_Lok (e_st (I := eI) (er_i2l (x_dk dn_429_0_0_ok 7 rfl)) (nx_un (fun _ => rfl)))))))
  (e_Tok2
  (e_Tok2
  (e_Tok2
  (e_Lok (lk_12_301 ho_429 (x_dk dn_429_0_0_ok 8 rfl)))
  (e_Lok (e_st (I := eI) (er_ifne (off := 5) (tg := 18) (x_dk dn_429_0_0_ok 9 rfl) (by decide)) nx_if1)))
  (e_Tok2
  (e_Lok (ps_iconst_m1 (x_dk dn_429_0_0_ok 10 rfl)))
  (e_Lok (e_rt (I := eI) (k := 1) ⟨(x_dk dn_429_0_0_ok 11 rfl), rfl⟩))))
  (e_Tok2
  (e_Tok2
  (e_Lok (ld_aload_n_0 (x_dk dn_429_0_0_ok 12 rfl)))
  (e_Lok (lk_12_265g ho_429 (x_dk dn_429_0_0_ok 13 rfl))))
  (e_Tok2
  (e_Lok (e_st (I := eI) (er_ifne (off := 6) (tg := 28) (x_dk dn_429_0_0_ok 14 rfl) (by decide)) nx_if1))
  (e_Lok (ps_bipush_m2 (x_dk dn_429_0_0_ok 15 rfl)))))))
  (e_Tok2
  (e_Tok2
  (e_Tok2
  (e_Tok2
  (e_Lok (e_rt (I := eI) (k := 1) ⟨(x_dk dn_429_0_0_ok 16 rfl), rfl⟩))
  (e_Lok (ld_aload_n_0 (x_dk dn_429_0_0_ok 17 rfl))))
  (e_Tok2
  (e_Lok (lk_12_863 ho_429 (x_dk dn_429_0_0_ok 18 rfl)))
  (e_Lok (e_st (I := eI) (er_ifeq (off := 6) (tg := 38) (x_dk dn_429_0_0_ok 19 rfl) (by decide)) nx_if1))))
  (e_Tok2
  (e_Tok2
  (e_Lok (ps_bipush_m3 (x_dk dn_429_0_0_ok 20 rfl)))
  (e_Lok (e_rt (I := eI) (k := 1) ⟨(x_dk dn_429_0_0_ok 21 rfl), rfl⟩)))
  (e_Tok2
  (e_Lok (ld_aload_n_0 (x_dk dn_429_0_0_ok 22 rfl)))
  (e_Lok (lk_12_8g ho_429 (x_dk dn_429_0_0_ok 23 rfl))))))
  (e_Tok2
  (e_Tok2
  (e_Tok2
  (e_Lok (ps_sipush_20836 (x_dk dn_429_0_0_ok 24 rfl)))
  (e_Lok (ps_iconst_4 (x_dk dn_429_0_1_ok 0 rfl))))
  (e_Tok2
  (e_Lok (ld_iload_n_1 (x_dk dn_429_0_1_ok 1 rfl)))
  (e_Lok (sm_imul (x_dk dn_429_0_1_ok 2 rfl)))))
  (e_Tok2
  (e_Tok2
  (e_Lok (sm_iadd (x_dk dn_429_0_1_ok 3 rfl)))
  (e_Lok (ld_iload_n_2 (x_dk dn_429_0_1_ok 4 rfl))))
  (e_Tok2
  (e_Lok (e_st (I := eI) (er_ifeq (off := 7) (tg := 57) (x_dk dn_429_0_1_ok 5 rfl) (by decide)) nx_if1))
  (e_Tok2
  (e_Lok (ps_iconst_1 (x_dk dn_429_0_1_ok 6 rfl)))
  (e_Lok (e_st (I := eI) (er_goto (off := 4) (tg := 58) (x_dk dn_429_0_1_ok 7 rfl) (by decide)) nx_goto))))))))
def te_429_33 : Nat → eE := (e_T 80 (e_T 68 (e_T 60 (e_T 58 (e_T 57 (e_L 57 (0, ei_push (0, 0) 58, 0, 0)) (e_L 58 (0, ei_ast elay false 59, 0, 0))) (e_T 59 (e_L 59 (0, ei_load 0 2 60, 0, 0)) (e_L 60 (0, ei_getf eft elay 12 0 63, 0, 0)))) (e_T 66 (e_T 63 (e_L 63 (0, ei_push (0, 20836) 66, 0, 0)) (e_L 66 (0, ei_push (0, 4) 67, 0, 0))) (e_T 67 (e_L 67 (0, ei_load 1 0 68, 0, 0)) (e_L 68 (0, ei_bin eF_mul 69, 0, 0))))) (e_T 72 (e_T 70 (e_T 69 (e_L 69 (0, ei_bin eF_add 70, 0, 0)) (e_L 70 (0, ei_push (0, 1) 71, 0, 0))) (e_T 71 (e_L 71 (0, ei_bin eF_add 72, 0, 0)) (e_L 72 (0, ei_load 3 0 73, 0, 0)))) (e_T 76 (e_T 73 (e_L 73 (0, ei_if1 0 80 76, 0, 0)) (e_L 76 (0, ei_push (0, 1) 77, 0, 0))) (e_T 77 (e_L 77 (0, ei_goto 81, 0, 0)) (e_L 80 (0, ei_push (0, 0) 81, 0, 0)))))) (e_T 90 (e_T 84 (e_T 82 (e_T 81 (e_L 81 (0, ei_ast elay false 82, 0, 0)) (e_L 82 (0, ei_load 0 2 83, 0, 0))) (e_T 83 (e_L 83 (0, ei_push (0, 4) 84, 0, 0)) (e_L 84 (0, ei_load 1 0 85, 0, 0)))) (e_T 86 (e_T 85 (e_L 85 (0, ei_load 2 0 86, 0, 0)) (e_L 86 (0, ei_if1 0 93 89, 0, 0))) (e_T 89 (e_L 89 (0, ei_push (0, 1) 90, 0, 0)) (e_L 90 (0, ei_goto 94, 0, 0))))) (e_T 98 (e_T 94 (e_T 93 (e_L 93 (0, ei_push (0, 0) 94, 0, 0)) (e_L 94 (0, ei_load 3 0 95, 0, 0))) (e_T 95 (e_L 95 (0, ei_if1 0 102 98, 0, 0)) (e_L 98 (0, ei_push (0, 1) 99, 0, 0)))) (e_T 102 (e_T 99 (e_L 99 (0, ei_goto 103, 0, 0)) (e_L 102 (0, ei_push (0, 0) 103, 0, 0))) (e_T 103 (e_L 103 (2, e_nof, 423, 5)) (e_T 106 (e_L 106 (0, ei_push (0, 0) 107, 0, 0)) (e_L 107 (1, e_nof, 1, 0))))))))
set_option maxRecDepth 20000 in
set_option maxHeartbeats 4000000 in
theorem te_429_33_ok : ∀ pc, e_EOq eft cls elay eI n_429 pc (te_429_33 pc) :=
  (e_Tok2
  (e_Tok2
  (e_Tok2
  (e_Tok2
  (e_Tok2
  (e_Lok (ps_iconst_0 (x_dk dn_429_0_1_ok 8 rfl)))
  (e_Lok (sm_iastore (x_dk dn_429_0_1_ok 9 rfl))))
  (e_Tok2
  (e_Lok (ld_aload_n_0 (x_dk dn_429_0_1_ok 10 rfl)))
  (e_Lok (lk_12_8g ho_429 (x_dk dn_429_0_1_ok 11 rfl)))))
  (e_Tok2
  (e_Tok2
  (e_Lok (ps_sipush_20836 (x_dk dn_429_0_1_ok 12 rfl)))
  (e_Lok (ps_iconst_4 (x_dk dn_429_0_1_ok 13 rfl))))
  (e_Tok2
  (e_Lok (ld_iload_n_1 (x_dk dn_429_0_1_ok 14 rfl)))
  (e_Lok (sm_imul (x_dk dn_429_0_1_ok 15 rfl))))))
  (e_Tok2
  (e_Tok2
  (e_Tok2
  (e_Lok (sm_iadd (x_dk dn_429_0_1_ok 16 rfl)))
  (e_Lok (ps_iconst_1 (x_dk dn_429_0_1_ok 17 rfl))))
  (e_Tok2
  (e_Lok (sm_iadd (x_dk dn_429_0_1_ok 18 rfl)))
  (e_Lok (ld_iload_n_3 (x_dk dn_429_0_1_ok 19 rfl)))))
  (e_Tok2
  (e_Tok2
  (e_Lok (e_st (I := eI) (er_ifeq (off := 7) (tg := 80) (x_dk dn_429_0_1_ok 20 rfl) (by decide)) nx_if1))
  (e_Lok (ps_iconst_1 (x_dk dn_429_0_1_ok 21 rfl))))
  (e_Tok2
  (e_Lok (e_st (I := eI) (er_goto (off := 4) (tg := 81) (x_dk dn_429_0_1_ok 22 rfl) (by decide)) nx_goto))
  (e_Lok (ps_iconst_0 (x_dk dn_429_0_1_ok 23 rfl)))))))
  (e_Tok2
  (e_Tok2
  (e_Tok2
  (e_Tok2
  (e_Lok (sm_iastore (x_dk dn_429_0_1_ok 24 rfl)))
  (e_Lok (ld_aload_n_0 (x_dk dn_429_0_2_ok 0 rfl))))
  (e_Tok2
  (e_Lok (ps_iconst_4 (x_dk dn_429_0_2_ok 1 rfl)))
  (e_Lok (ld_iload_n_1 (x_dk dn_429_0_2_ok 2 rfl)))))
  (e_Tok2
  (e_Tok2
  (e_Lok (ld_iload_n_2 (x_dk dn_429_0_2_ok 3 rfl)))
  (e_Lok (e_st (I := eI) (er_ifeq (off := 7) (tg := 93) (x_dk dn_429_0_2_ok 4 rfl) (by decide)) nx_if1)))
  (e_Tok2
  (e_Lok (ps_iconst_1 (x_dk dn_429_0_2_ok 5 rfl)))
  (e_Lok (e_st (I := eI) (er_goto (off := 4) (tg := 94) (x_dk dn_429_0_2_ok 6 rfl) (by decide)) nx_goto)))))
  (e_Tok2
  (e_Tok2
  (e_Tok2
  (e_Lok (ps_iconst_0 (x_dk dn_429_0_2_ok 7 rfl)))
  (e_Lok (ld_iload_n_3 (x_dk dn_429_0_2_ok 8 rfl))))
  (e_Tok2
  (e_Lok (e_st (I := eI) (er_ifeq (off := 7) (tg := 102) (x_dk dn_429_0_2_ok 9 rfl) (by decide)) nx_if1))
  (e_Lok (ps_iconst_1 (x_dk dn_429_0_2_ok 10 rfl)))))
  (e_Tok2
  (e_Tok2
  (e_Lok (e_st (I := eI) (er_goto (off := 4) (tg := 103) (x_dk dn_429_0_2_ok 11 rfl) (by decide)) nx_goto))
  (e_Lok (ps_iconst_0 (x_dk dn_429_0_2_ok 12 rfl))))
  (e_Tok2
  (e_Lok (lk_12_866 ho_429 (x_dk dn_429_0_2_ok 13 rfl)))
  (e_Tok2
  (e_Lok (ps_iconst_0 (x_dk dn_429_0_2_ok 14 rfl)))
  (e_Lok (e_rt (I := eI) (k := 1) ⟨(x_dk dn_429_0_2_ok 15 rfl), rfl⟩))))))))
def te_429 : Nat → eE := (e_T 54 te_429_0 te_429_33)
theorem te_429_ok : ∀ pc, e_EOq eft cls elay eI n_429 pc (te_429 pc) := (e_Tok2 (te_429_0_ok) (te_429_33_ok))
theorem ho_430 : (xm_y n_430).cls = "RobotCellHouseModel" := rfl
def dn_430_0_0 : List (Nat × Instr × Nat) := [(0, .iload_n 1, 1), (1, .i2l, 1), (2, .lconst 0, 1), (3, .ldc2_w 367, 3), (6, .invokestatic 301, 3), (9, .ifCond .ne 5, 3), (12, .iconst (-1), 1), (13, .ireturn, 1), (14, .aload_n 0, 1), (15, .getfield 265, 3), (18, .ifCond .eq 22, 3), (21, .aload_n 0, 1), (22, .getfield 137, 3), (25, .iload_n 1, 1), (26, .baload, 1), (27, .ifCond .eq 13, 3), (30, .aload_n 0, 1), (31, .getfield 8, 3), (34, .iconst 1, 1), (35, .iaload, 1), (36, .iconst 1, 1), (37, .if_icmp .ne 6, 3), (40, .bipush (-2), 2), (42, .ireturn, 1), (43, .iconst 0, 1)]
set_option maxRecDepth 20000 in
theorem dn_430_0_0_ok : dn_430_0_0.all (fun q => decide (decode (xm_b n_430) q.1 = .ok (q.2.1, q.2.2))) = true := xa_g_ok (by decide +kernel)
def dn_430_0_1 : List (Nat × Instr × Nat) := [(44, .istore_n 2, 1), (45, .iload_n 2, 1), (46, .aload_n 0, 1), (47, .getfield 285, 3), (50, .if_icmp .ge 44, 3), (53, .aload_n 0, 1), (54, .getfield 8, 3), (57, .sipush 20836, 3), (60, .iconst 4, 1), (61, .iload_n 2, 1), (62, .imul, 1), (63, .iadd, 1), (64, .iaload, 1), (65, .ifCond .eq 20, 3), (68, .aload_n 0, 1), (69, .getfield 8, 3), (72, .sipush 20836, 3), (75, .iconst 4, 1), (76, .iload_n 2, 1), (77, .imul, 1), (78, .iadd, 1), (79, .iconst 1, 1), (80, .iadd, 1), (81, .iaload, 1), (82, .ifCond .ne 6, 3)]
set_option maxRecDepth 20000 in
theorem dn_430_0_1_ok : dn_430_0_1.all (fun q => decide (decode (xm_b n_430) q.1 = .ok (q.2.1, q.2.2))) = true := xa_g_ok (by decide +kernel)
def dn_430_0_2 : List (Nat × Instr × Nat) := [(85, .bipush (-2), 2), (87, .ireturn, 1), (88, .iinc 2 1, 3), (91, .goto (-46), 3), (94, .aload_n 0, 1), (95, .invokevirtual 863, 3), (98, .ifCond .eq 6, 3), (101, .bipush (-3), 2), (103, .ireturn, 1), (104, .iconst 0, 1), (105, .istore_n 2, 1), (106, .iload_n 2, 1), (107, .aload_n 0, 1), (108, .getfield 285, 3), (111, .if_icmp .ge 24, 3), (114, .aload_n 0, 1), (115, .getfield 8, 3), (118, .sipush 20836, 3), (121, .iconst 4, 1), (122, .iload_n 2, 1), (123, .imul, 1), (124, .iadd, 1), (125, .iconst 3, 1), (126, .iadd, 1), (127, .iconst 0, 1)]
set_option maxRecDepth 20000 in
theorem dn_430_0_2_ok : dn_430_0_2.all (fun q => decide (decode (xm_b n_430) q.1 = .ok (q.2.1, q.2.2))) = true := xa_g_ok (by decide +kernel)
def dn_430_0_3 : List (Nat × Instr × Nat) := [(128, .iastore, 1), (129, .iinc 2 1, 3), (132, .goto (-26), 3), (135, .aload_n 0, 1), (136, .getfield 8, 3), (139, .iconst 1, 1), (140, .iconst 1, 1), (141, .iastore, 1), (142, .aload_n 0, 1), (143, .iconst 3, 1), (144, .iload_n 1, 1), (145, .iconst 0, 1), (146, .invokevirtual 693, 3), (149, .aload_n 0, 1), (150, .iconst 5, 1), (151, .iload_n 1, 1), (152, .iconst 0, 1), (153, .iconst 0, 1), (154, .invokevirtual 866, 3), (157, .iconst 1, 1), (158, .ireturn, 1)]
set_option maxRecDepth 20000 in
theorem dn_430_0_3_ok : dn_430_0_3.all (fun q => decide (decode (xm_b n_430) q.1 = .ok (q.2.1, q.2.2))) = true := xa_g_ok (by decide +kernel)
def te_430_0 : Nat → eE := (e_T 21 (e_T 9 (e_T 2 (e_T 0 (e_L 0 (0, ei_load 1 0 1, 0, 0)) (e_T 1 (e_L 1 (0, ei_un (fun x => (4, x)) 2, 0, 0)) (e_L 2 (0, ei_push (4, 0) 3, 0, 0)))) (e_T 3 (e_L 3 (0, ei_push (4, 7) 6, 0, 0)) (e_T 6 (e_L 6 (2, e_nof, 266, 3)) (e_L 9 (0, ei_if1 1 14 12, 0, 0))))) (e_T 14 (e_T 12 (e_L 12 (0, ei_push (0, (-1)) 13, 0, 0)) (e_T 13 (e_L 13 (1, e_nof, 1, 0)) (e_L 14 (0, ei_load 0 2 15, 0, 0)))) (e_T 15 (e_L 15 (0, ei_getf eft elay 12 3 18, 0, 0)) (e_T 18 (e_L 18 (0, ei_if1 0 40 21, 0, 0)) (e_L 21 (0, ei_load 0 2 22, 0, 0)))))) (e_T 31 (e_T 26 (e_T 22 (e_L 22 (0, ei_getf eft elay 12 51 25, 0, 0)) (e_T 25 (e_L 25 (0, ei_load 1 0 26, 0, 0)) (e_L 26 (0, ei_ald elay true 27, 0, 0)))) (e_T 27 (e_L 27 (0, ei_if1 0 40 30, 0, 0)) (e_T 30 (e_L 30 (0, ei_load 0 2 31, 0, 0)) (e_L 31 (0, ei_getf eft elay 12 0 34, 0, 0))))) (e_T 36 (e_T 34 (e_L 34 (0, ei_push (0, 1) 35, 0, 0)) (e_T 35 (e_L 35 (0, ei_ald elay false 36, 0, 0)) (e_L 36 (0, ei_push (0, 1) 37, 0, 0)))) (e_T 37 (e_L 37 (0, ei_if2 1 43 40, 0, 0)) (e_T 40 (e_L 40 (0, ei_push (0, (-2)) 42, 0, 0)) (e_L 42 (1, e_nof, 1, 0)))))))
set_option maxRecDepth 20000 in
set_option maxHeartbeats 4000000 in
theorem te_430_0_ok : ∀ pc, e_EOq eft cls elay eI n_430 pc (te_430_0 pc) :=
  (e_Tok2
  (e_Tok2
  (e_Tok2
  (e_Tok2
  (e_Lok (ld_iload_n_1 (x_dk dn_430_0_0_ok 0 rfl)))
  (e_Tok2
  (e_Lok (e_st (I := eI) (er_i2l (x_dk dn_430_0_0_ok 1 rfl)) (nx_un (fun _ => rfl))))
  (e_Lok (ps_lconst_0 (x_dk dn_430_0_0_ok 2 rfl)))))
  (e_Tok2
  (e_Lok (e_st (I := eI) (er_ldc2 (ix := 367) (z := 7) (v := 7) (x_dk dn_430_0_0_ok 3 rfl) (in_t11 (List.mem_of_getElem? (i := 120) rfl) rfl) (by decide)) (nx_push (Or.inl rfl))))
  (e_Tok2
  (e_Lok (lk_12_301 ho_430 (x_dk dn_430_0_0_ok 4 rfl)))
  (e_Lok (e_st (I := eI) (er_ifne (off := 5) (tg := 14) (x_dk dn_430_0_0_ok 5 rfl) (by decide)) nx_if1)))))
  (e_Tok2
  (e_Tok2
  (e_Lok (ps_iconst_m1 (x_dk dn_430_0_0_ok 6 rfl)))
  (e_Tok2
  (e_Lok (e_rt (I := eI) (k := 1) ⟨(x_dk dn_430_0_0_ok 7 rfl), rfl⟩))
  (e_Lok (ld_aload_n_0 (x_dk dn_430_0_0_ok 8 rfl)))))
  (e_Tok2
  (e_Lok (lk_12_265g ho_430 (x_dk dn_430_0_0_ok 9 rfl)))
  (e_Tok2
  (e_Lok (e_st (I := eI) (er_ifeq (off := 22) (tg := 40) (x_dk dn_430_0_0_ok 10 rfl) (by decide)) nx_if1))
  (e_Lok (ld_aload_n_0 (x_dk dn_430_0_0_ok 11 rfl)))))))
  (e_Tok2
  (e_Tok2
  (e_Tok2
  (e_Lok (lk_12_137g ho_430 (x_dk dn_430_0_0_ok 12 rfl)))
  (e_Tok2
  (e_Lok (ld_iload_n_1 (x_dk dn_430_0_0_ok 13 rfl)))
  (e_Lok (e_st (I := eI) (er_baload (x_dk dn_430_0_0_ok 14 rfl)) nx_ald))))
  (e_Tok2
  (e_Lok (e_st (I := eI) (er_ifeq (off := 13) (tg := 40) (x_dk dn_430_0_0_ok 15 rfl) (by decide)) nx_if1))
  (e_Tok2
  (e_Lok (ld_aload_n_0 (x_dk dn_430_0_0_ok 16 rfl)))
  (e_Lok (lk_12_8g ho_430 (x_dk dn_430_0_0_ok 17 rfl))))))
  (e_Tok2
  (e_Tok2
  (e_Lok (ps_iconst_1 (x_dk dn_430_0_0_ok 18 rfl)))
  (e_Tok2
  (e_Lok (sm_iaload (x_dk dn_430_0_0_ok 19 rfl)))
  (e_Lok (ps_iconst_1 (x_dk dn_430_0_0_ok 20 rfl)))))
  (e_Tok2
  (e_Lok (e_st (I := eI) (er_icmpne (off := 6) (tg := 43) (x_dk dn_430_0_0_ok 21 rfl) (by decide)) nx_if2))
  (e_Tok2
  (e_Lok (ps_bipush_m2 (x_dk dn_430_0_0_ok 22 rfl)))
  (e_Lok (e_rt (I := eI) (k := 1) ⟨(x_dk dn_430_0_0_ok 23 rfl), rfl⟩)))))))
def te_430_24 : Nat → eE := (e_T 62 (e_T 50 (e_T 45 (e_T 43 (e_L 43 (0, ei_push (0, 0) 44, 0, 0)) (e_T 44 (e_L 44 (0, ei_stor 2 0 45, 0, 0)) (e_L 45 (0, ei_load 2 0 46, 0, 0)))) (e_T 46 (e_L 46 (0, ei_load 0 2 47, 0, 0)) (e_T 47 (e_L 47 (0, ei_getf eft elay 12 49 50, 0, 0)) (e_L 50 (0, ei_if2 3 94 53, 0, 0))))) (e_T 57 (e_T 53 (e_L 53 (0, ei_load 0 2 54, 0, 0)) (e_T 54 (e_L 54 (0, ei_getf eft elay 12 0 57, 0, 0)) (e_L 57 (0, ei_push (0, 20836) 60, 0, 0)))) (e_T 60 (e_L 60 (0, ei_push (0, 4) 61, 0, 0)) (e_T 61 (e_L 61 (0, ei_load 2 0 62, 0, 0)) (e_L 62 (0, ei_bin eF_mul 63, 0, 0)))))) (e_T 72 (e_T 65 (e_T 63 (e_L 63 (0, ei_bin eF_add 64, 0, 0)) (e_T 64 (e_L 64 (0, ei_ald elay false 65, 0, 0)) (e_L 65 (0, ei_if1 0 85 68, 0, 0)))) (e_T 68 (e_L 68 (0, ei_load 0 2 69, 0, 0)) (e_T 69 (e_L 69 (0, ei_getf eft elay 12 0 72, 0, 0)) (e_L 72 (0, ei_push (0, 20836) 75, 0, 0))))) (e_T 77 (e_T 75 (e_L 75 (0, ei_push (0, 4) 76, 0, 0)) (e_T 76 (e_L 76 (0, ei_load 2 0 77, 0, 0)) (e_L 77 (0, ei_bin eF_mul 78, 0, 0)))) (e_T 78 (e_L 78 (0, ei_bin eF_add 79, 0, 0)) (e_T 79 (e_L 79 (0, ei_push (0, 1) 80, 0, 0)) (e_L 80 (0, ei_bin eF_add 81, 0, 0)))))))
set_option maxRecDepth 20000 in
set_option maxHeartbeats 4000000 in
theorem te_430_24_ok : ∀ pc, e_EOq eft cls elay eI n_430 pc (te_430_24 pc) :=
  (e_Tok2
  (e_Tok2
  (e_Tok2
  (e_Tok2
  (e_Lok (ps_iconst_0 (x_dk dn_430_0_0_ok 24 rfl)))
  (e_Tok2
  (e_Lok (e_st (I := eI) (er_istore_n (i := 2) (x_dk dn_430_0_1_ok 0 rfl) (by decide +kernel)) nx_stor))
  (e_Lok (ld_iload_n_2 (x_dk dn_430_0_1_ok 1 rfl)))))
  (e_Tok2
  (e_Lok (ld_aload_n_0 (x_dk dn_430_0_1_ok 2 rfl)))
  (e_Tok2
  (e_Lok (lk_12_285g ho_430 (x_dk dn_430_0_1_ok 3 rfl)))
  (e_Lok (e_st (I := eI) (er_icmpge (off := 44) (tg := 94) (x_dk dn_430_0_1_ok 4 rfl) (by decide)) nx_if2)))))
  (e_Tok2
  (e_Tok2
  (e_Lok (ld_aload_n_0 (x_dk dn_430_0_1_ok 5 rfl)))
  (e_Tok2
  (e_Lok (lk_12_8g ho_430 (x_dk dn_430_0_1_ok 6 rfl)))
  (e_Lok (ps_sipush_20836 (x_dk dn_430_0_1_ok 7 rfl)))))
  (e_Tok2
  (e_Lok (ps_iconst_4 (x_dk dn_430_0_1_ok 8 rfl)))
  (e_Tok2
  (e_Lok (ld_iload_n_2 (x_dk dn_430_0_1_ok 9 rfl)))
  (e_Lok (sm_imul (x_dk dn_430_0_1_ok 10 rfl)))))))
  (e_Tok2
  (e_Tok2
  (e_Tok2
  (e_Lok (sm_iadd (x_dk dn_430_0_1_ok 11 rfl)))
  (e_Tok2
  (e_Lok (sm_iaload (x_dk dn_430_0_1_ok 12 rfl)))
  (e_Lok (e_st (I := eI) (er_ifeq (off := 20) (tg := 85) (x_dk dn_430_0_1_ok 13 rfl) (by decide)) nx_if1))))
  (e_Tok2
  (e_Lok (ld_aload_n_0 (x_dk dn_430_0_1_ok 14 rfl)))
  (e_Tok2
  (e_Lok (lk_12_8g ho_430 (x_dk dn_430_0_1_ok 15 rfl)))
  (e_Lok (ps_sipush_20836 (x_dk dn_430_0_1_ok 16 rfl))))))
  (e_Tok2
  (e_Tok2
  (e_Lok (ps_iconst_4 (x_dk dn_430_0_1_ok 17 rfl)))
  (e_Tok2
  (e_Lok (ld_iload_n_2 (x_dk dn_430_0_1_ok 18 rfl)))
  (e_Lok (sm_imul (x_dk dn_430_0_1_ok 19 rfl)))))
  (e_Tok2
  (e_Lok (sm_iadd (x_dk dn_430_0_1_ok 20 rfl)))
  (e_Tok2
  (e_Lok (ps_iconst_1 (x_dk dn_430_0_1_ok 21 rfl)))
  (e_Lok (sm_iadd (x_dk dn_430_0_1_ok 22 rfl))))))))
def te_430_48 : Nat → eE := (e_T 104 (e_T 91 (e_T 85 (e_T 81 (e_L 81 (0, ei_ald elay false 82, 0, 0)) (e_T 82 (e_L 82 (0, ei_if1 1 88 85, 0, 0)) (e_L 85 (0, ei_push (0, (-2)) 87, 0, 0)))) (e_T 87 (e_L 87 (1, e_nof, 1, 0)) (e_T 88 (e_L 88 (0, ei_inc 2 1 91, 0, 0)) (e_L 91 (0, ei_goto 45, 0, 0))))) (e_T 98 (e_T 94 (e_L 94 (0, ei_load 0 2 95, 0, 0)) (e_T 95 (e_L 95 (2, e_nof, 422, 1)) (e_L 98 (0, ei_if1 0 104 101, 0, 0)))) (e_T 101 (e_L 101 (0, ei_push (0, (-3)) 103, 0, 0)) (e_T 103 (e_L 103 (1, e_nof, 1, 0)) (e_L 104 (0, ei_push (0, 0) 105, 0, 0)))))) (e_T 114 (e_T 107 (e_T 105 (e_L 105 (0, ei_stor 2 0 106, 0, 0)) (e_T 106 (e_L 106 (0, ei_load 2 0 107, 0, 0)) (e_L 107 (0, ei_load 0 2 108, 0, 0)))) (e_T 108 (e_L 108 (0, ei_getf eft elay 12 49 111, 0, 0)) (e_T 111 (e_L 111 (0, ei_if2 3 135 114, 0, 0)) (e_L 114 (0, ei_load 0 2 115, 0, 0))))) (e_T 121 (e_T 115 (e_L 115 (0, ei_getf eft elay 12 0 118, 0, 0)) (e_T 118 (e_L 118 (0, ei_push (0, 20836) 121, 0, 0)) (e_L 121 (0, ei_push (0, 4) 122, 0, 0)))) (e_T 122 (e_L 122 (0, ei_load 2 0 123, 0, 0)) (e_T 123 (e_L 123 (0, ei_bin eF_mul 124, 0, 0)) (e_L 124 (0, ei_bin eF_add 125, 0, 0)))))))
set_option maxRecDepth 20000 in
set_option maxHeartbeats 4000000 in
theorem te_430_48_ok : ∀ pc, e_EOq eft cls elay eI n_430 pc (te_430_48 pc) :=
  (e_Tok2
  (e_Tok2
  (e_Tok2
  (e_Tok2
  (e_Lok (sm_iaload (x_dk dn_430_0_1_ok 23 rfl)))
  (e_Tok2
  (e_Lok (e_st (I := eI) (er_ifne (off := 6) (tg := 88) (x_dk dn_430_0_1_ok 24 rfl) (by decide)) nx_if1))
  (e_Lok (ps_bipush_m2 (x_dk dn_430_0_2_ok 0 rfl)))))
  (e_Tok2
  (e_Lok (e_rt (I := eI) (k := 1) ⟨(x_dk dn_430_0_2_ok 1 rfl), rfl⟩))
  (e_Tok2
  (e_Lok (e_st (I := eI) (er_iinc (i := 2) (n := 1) (x_dk dn_430_0_2_ok 2 rfl) (by decide +kernel) (by decide)) nx_inc))
  (e_Lok (e_st (I := eI) (er_goto (off := (-46)) (tg := 45) (x_dk dn_430_0_2_ok 3 rfl) (by decide)) nx_goto)))))
  (e_Tok2
  (e_Tok2
  (e_Lok (ld_aload_n_0 (x_dk dn_430_0_2_ok 4 rfl)))
  (e_Tok2
  (e_Lok (lk_12_863 ho_430 (x_dk dn_430_0_2_ok 5 rfl)))
  (e_Lok (e_st (I := eI) (er_ifeq (off := 6) (tg := 104) (x_dk dn_430_0_2_ok 6 rfl) (by decide)) nx_if1))))
  (e_Tok2
  (e_Lok (ps_bipush_m3 (x_dk dn_430_0_2_ok 7 rfl)))
  (e_Tok2
  (e_Lok (e_rt (I := eI) (k := 1) ⟨(x_dk dn_430_0_2_ok 8 rfl), rfl⟩))
  (e_Lok (ps_iconst_0 (x_dk dn_430_0_2_ok 9 rfl)))))))
  (e_Tok2
  (e_Tok2
  (e_Tok2
  (e_Lok (e_st (I := eI) (er_istore_n (i := 2) (x_dk dn_430_0_2_ok 10 rfl) (by decide +kernel)) nx_stor))
  (e_Tok2
  (e_Lok (ld_iload_n_2 (x_dk dn_430_0_2_ok 11 rfl)))
  (e_Lok (ld_aload_n_0 (x_dk dn_430_0_2_ok 12 rfl)))))
  (e_Tok2
  (e_Lok (lk_12_285g ho_430 (x_dk dn_430_0_2_ok 13 rfl)))
  (e_Tok2
  (e_Lok (e_st (I := eI) (er_icmpge (off := 24) (tg := 135) (x_dk dn_430_0_2_ok 14 rfl) (by decide)) nx_if2))
  (e_Lok (ld_aload_n_0 (x_dk dn_430_0_2_ok 15 rfl))))))
  (e_Tok2
  (e_Tok2
  (e_Lok (lk_12_8g ho_430 (x_dk dn_430_0_2_ok 16 rfl)))
  (e_Tok2
  (e_Lok (ps_sipush_20836 (x_dk dn_430_0_2_ok 17 rfl)))
  (e_Lok (ps_iconst_4 (x_dk dn_430_0_2_ok 18 rfl)))))
  (e_Tok2
  (e_Lok (ld_iload_n_2 (x_dk dn_430_0_2_ok 19 rfl)))
  (e_Tok2
  (e_Lok (sm_imul (x_dk dn_430_0_2_ok 20 rfl)))
  (e_Lok (sm_iadd (x_dk dn_430_0_2_ok 21 rfl))))))))
def te_430_72 : Nat → eE := (e_T 142 (e_T 132 (e_T 127 (e_T 125 (e_L 125 (0, ei_push (0, 3) 126, 0, 0)) (e_T 126 (e_L 126 (0, ei_bin eF_add 127, 0, 0)) (e_L 127 (0, ei_push (0, 0) 128, 0, 0)))) (e_T 128 (e_L 128 (0, ei_ast elay false 129, 0, 0)) (e_T 129 (e_L 129 (0, ei_inc 2 1 132, 0, 0)) (e_L 132 (0, ei_goto 106, 0, 0))))) (e_T 139 (e_T 135 (e_L 135 (0, ei_load 0 2 136, 0, 0)) (e_T 136 (e_L 136 (0, ei_getf eft elay 12 0 139, 0, 0)) (e_L 139 (0, ei_push (0, 1) 140, 0, 0)))) (e_T 140 (e_L 140 (0, ei_push (0, 1) 141, 0, 0)) (e_T 141 (e_L 141 (0, ei_ast elay false 142, 0, 0)) (e_L 142 (0, ei_load 0 2 143, 0, 0)))))) (e_T 150 (e_T 145 (e_T 143 (e_L 143 (0, ei_push (0, 3) 144, 0, 0)) (e_T 144 (e_L 144 (0, ei_load 1 0 145, 0, 0)) (e_L 145 (0, ei_push (0, 0) 146, 0, 0)))) (e_T 146 (e_L 146 (2, e_nof, 319, 4)) (e_T 149 (e_L 149 (0, ei_load 0 2 150, 0, 0)) (e_L 150 (0, ei_push (0, 5) 151, 0, 0))))) (e_T 153 (e_T 151 (e_L 151 (0, ei_load 1 0 152, 0, 0)) (e_T 152 (e_L 152 (0, ei_push (0, 0) 153, 0, 0)) (e_L 153 (0, ei_push (0, 0) 154, 0, 0)))) (e_T 154 (e_L 154 (2, e_nof, 423, 5)) (e_T 157 (e_L 157 (0, ei_push (0, 1) 158, 0, 0)) (e_L 158 (1, e_nof, 1, 0)))))))
set_option maxRecDepth 20000 in
set_option maxHeartbeats 4000000 in
theorem te_430_72_ok : ∀ pc, e_EOq eft cls elay eI n_430 pc (te_430_72 pc) :=
  (e_Tok2
  (e_Tok2
  (e_Tok2
  (e_Tok2
  (e_Lok (ps_iconst_3 (x_dk dn_430_0_2_ok 22 rfl)))
  (e_Tok2
  (e_Lok (sm_iadd (x_dk dn_430_0_2_ok 23 rfl)))
  (e_Lok (ps_iconst_0 (x_dk dn_430_0_2_ok 24 rfl)))))
  (e_Tok2
  (e_Lok (sm_iastore (x_dk dn_430_0_3_ok 0 rfl)))
  (e_Tok2
  (e_Lok (e_st (I := eI) (er_iinc (i := 2) (n := 1) (x_dk dn_430_0_3_ok 1 rfl) (by decide +kernel) (by decide)) nx_inc))
  (e_Lok (e_st (I := eI) (er_goto (off := (-26)) (tg := 106) (x_dk dn_430_0_3_ok 2 rfl) (by decide)) nx_goto)))))
  (e_Tok2
  (e_Tok2
  (e_Lok (ld_aload_n_0 (x_dk dn_430_0_3_ok 3 rfl)))
  (e_Tok2
  (e_Lok (lk_12_8g ho_430 (x_dk dn_430_0_3_ok 4 rfl)))
  (e_Lok (ps_iconst_1 (x_dk dn_430_0_3_ok 5 rfl)))))
  (e_Tok2
  (e_Lok (ps_iconst_1 (x_dk dn_430_0_3_ok 6 rfl)))
  (e_Tok2
  (e_Lok (sm_iastore (x_dk dn_430_0_3_ok 7 rfl)))
  (e_Lok (ld_aload_n_0 (x_dk dn_430_0_3_ok 8 rfl)))))))
  (e_Tok2
  (e_Tok2
  (e_Tok2
  (e_Lok (ps_iconst_3 (x_dk dn_430_0_3_ok 9 rfl)))
  (e_Tok2
  (e_Lok (ld_iload_n_1 (x_dk dn_430_0_3_ok 10 rfl)))
  (e_Lok (ps_iconst_0 (x_dk dn_430_0_3_ok 11 rfl)))))
  (e_Tok2
  (e_Lok (lk_12_693 ho_430 (x_dk dn_430_0_3_ok 12 rfl)))
  (e_Tok2
  (e_Lok (ld_aload_n_0 (x_dk dn_430_0_3_ok 13 rfl)))
  (e_Lok (ps_iconst_5 (x_dk dn_430_0_3_ok 14 rfl))))))
  (e_Tok2
  (e_Tok2
  (e_Lok (ld_iload_n_1 (x_dk dn_430_0_3_ok 15 rfl)))
  (e_Tok2
  (e_Lok (ps_iconst_0 (x_dk dn_430_0_3_ok 16 rfl)))
  (e_Lok (ps_iconst_0 (x_dk dn_430_0_3_ok 17 rfl)))))
  (e_Tok2
  (e_Lok (lk_12_866 ho_430 (x_dk dn_430_0_3_ok 18 rfl)))
  (e_Tok2
  (e_Lok (ps_iconst_1 (x_dk dn_430_0_3_ok 19 rfl)))
  (e_Lok (e_rt (I := eI) (k := 1) ⟨(x_dk dn_430_0_3_ok 20 rfl), rfl⟩)))))))
def te_430 : Nat → eE := (e_T 80 (e_T 42 te_430_0 te_430_24) (e_T 124 te_430_48 te_430_72))
theorem te_430_ok : ∀ pc, e_EOq eft cls elay eI n_430 pc (te_430 pc) := (e_Tok2 ((e_Tok2 (te_430_0_ok) (te_430_24_ok))) ((e_Tok2 (te_430_48_ok) (te_430_72_ok))))
theorem ho_431 : (xm_y n_431).cls = "RobotCellHouseModel" := rfl
def dn_431_0_0 : List (Nat × Instr × Nat) := [(0, .iload_n 1, 1), (1, .iconst (-1), 1), (2, .if_icmp .eq 13, 3), (5, .aload_n 0, 1), (6, .iload_n 1, 1), (7, .invokevirtual 305, 3), (10, .ifCond .ne 5, 3), (13, .iconst (-1), 1), (14, .ireturn, 1), (15, .aload_n 0, 1), (16, .getfield 265, 3), (19, .ifCond .eq 17, 3), (22, .iload_n 1, 1), (23, .iconst (-1), 1), (24, .if_icmp .ne 15, 3), (27, .aload_n 0, 1), (28, .getfield 8, 3), (31, .iconst 1, 1), (32, .iaload, 1), (33, .ifCond .ne 6, 3), (36, .bipush (-2), 2), (38, .ireturn, 1), (39, .aload_n 0, 1), (40, .invokevirtual 863, 3), (43, .ifCond .eq 6, 3)]
set_option maxRecDepth 20000 in
theorem dn_431_0_0_ok : dn_431_0_0.all (fun q => decide (decode (xm_b n_431) q.1 = .ok (q.2.1, q.2.2))) = true := xa_g_ok (by decide +kernel)
def dn_431_0_1 : List (Nat × Instr × Nat) := [(46, .bipush (-3), 2), (48, .ireturn, 1), (49, .iconst 0, 1), (50, .istore_n 2, 1), (51, .iload_n 1, 1), (52, .iconst (-1), 1), (53, .if_icmp .ne 12, 3), (56, .aload_n 0, 1), (57, .iconst 4, 1), (58, .iconst 0, 1), (59, .invokevirtual 789, 3), (62, .goto 20, 3), (65, .aload_n 0, 1), (66, .getfield 8, 3), (69, .iload_n 1, 1), (70, .invokestatic 294, 3), (73, .iconst 0, 1), (74, .iadd, 1), (75, .iaload, 1), (76, .istore_n 2, 1), (77, .aload_n 0, 1), (78, .iload_n 1, 1), (79, .invokevirtual 699, 3), (82, .aload_n 0, 1), (83, .bipush 6, 2)]
set_option maxRecDepth 20000 in
theorem dn_431_0_1_ok : dn_431_0_1.all (fun q => decide (decode (xm_b n_431) q.1 = .ok (q.2.1, q.2.2))) = true := xa_g_ok (by decide +kernel)
def dn_431_0_2 : List (Nat × Instr × Nat) := [(85, .iload_n 1, 1), (86, .iconst 0, 1), (87, .iconst 0, 1), (88, .invokevirtual 866, 3), (91, .iload_n 2, 1), (92, .ireturn, 1)]
set_option maxRecDepth 20000 in
theorem dn_431_0_2_ok : dn_431_0_2.all (fun q => decide (decode (xm_b n_431) q.1 = .ok (q.2.1, q.2.2))) = true := xa_g_ok (by decide +kernel)
def te_431_0 : Nat → eE := (e_T 23 (e_T 10 (e_T 2 (e_T 0 (e_L 0 (0, ei_load 1 0 1, 0, 0)) (e_T 1 (e_L 1 (0, ei_push (0, (-1)) 2, 0, 0)) (e_L 2 (0, ei_if2 0 15 5, 0, 0)))) (e_T 6 (e_T 5 (e_L 5 (0, ei_load 0 2 6, 0, 0)) (e_L 6 (0, ei_load 1 0 7, 0, 0))) (e_T 7 (e_L 7 (2, e_nof, 270, 2)) (e_L 10 (0, ei_if1 1 15 13, 0, 0))))) (e_T 15 (e_T 13 (e_L 13 (0, ei_push (0, (-1)) 14, 0, 0)) (e_T 14 (e_L 14 (1, e_nof, 1, 0)) (e_L 15 (0, ei_load 0 2 16, 0, 0)))) (e_T 19 (e_T 16 (e_L 16 (0, ei_getf eft elay 12 3 19, 0, 0)) (e_L 19 (0, ei_if1 0 36 22, 0, 0))) (e_T 22 (e_L 22 (0, ei_load 1 0 23, 0, 0)) (e_L 23 (0, ei_push (0, (-1)) 24, 0, 0)))))) (e_T 36 (e_T 28 (e_T 24 (e_L 24 (0, ei_if2 1 39 27, 0, 0)) (e_T 27 (e_L 27 (0, ei_load 0 2 28, 0, 0)) (e_L 28 (0, ei_getf eft elay 12 0 31, 0, 0)))) (e_T 32 (e_T 31 (e_L 31 (0, ei_push (0, 1) 32, 0, 0)) (e_L 32 (0, ei_ald elay false 33, 0, 0))) (e_T 33 (e_L 33 (0, ei_if1 1 39 36, 0, 0)) (e_L 36 (0, ei_push (0, (-2)) 38, 0, 0))))) (e_T 40 (e_T 38 (e_L 38 (1, e_nof, 1, 0)) (e_T 39 (e_L 39 (0, ei_load 0 2 40, 0, 0)) (e_L 40 (2, e_nof, 422, 1)))) (e_T 46 (e_T 43 (e_L 43 (0, ei_if1 0 49 46, 0, 0)) (e_L 46 (0, ei_push (0, (-3)) 48, 0, 0))) (e_T 48 (e_L 48 (1, e_nof, 1, 0)) (e_L 49 (0, ei_push (0, 0) 50, 0, 0)))))))
set_option maxRecDepth 20000 in
set_option maxHeartbeats 4000000 in
theorem te_431_0_ok : ∀ pc, e_EOq eft cls elay eI n_431 pc (te_431_0 pc) :=
  (e_Tok2
  (e_Tok2
  (e_Tok2
  (e_Tok2
  (e_Lok (ld_iload_n_1 (x_dk dn_431_0_0_ok 0 rfl)))
  (e_Tok2
  (e_Lok (ps_iconst_m1 (x_dk dn_431_0_0_ok 1 rfl)))
  (e_Lok (e_st (I := eI) (er_icmpeq (off := 13) (tg := 15) (x_dk dn_431_0_0_ok 2 rfl) (by decide)) nx_if2))))
  (e_Tok2
  (e_Tok2
  (e_Lok (ld_aload_n_0 (x_dk dn_431_0_0_ok 3 rfl)))
  (e_Lok (ld_iload_n_1 (x_dk dn_431_0_0_ok 4 rfl))))
  (e_Tok2
  (e_Lok (lk_12_305 ho_431 (x_dk dn_431_0_0_ok 5 rfl)))
  (e_Lok (e_st (I := eI) (er_ifne (off := 5) (tg := 15) (x_dk dn_431_0_0_ok 6 rfl) (by decide)) nx_if1)))))
  (e_Tok2
  (e_Tok2
  (e_Lok (ps_iconst_m1 (x_dk dn_431_0_0_ok 7 rfl)))
  (e_Tok2
  (e_Lok (e_rt (I := eI) (k := 1) ⟨(x_dk dn_431_0_0_ok 8 rfl), rfl⟩))
  (e_Lok (ld_aload_n_0 (x_dk dn_431_0_0_ok 9 rfl)))))
  (e_Tok2
  (e_Tok2
  (e_Lok (lk_12_265g ho_431 (x_dk dn_431_0_0_ok 10 rfl)))
  (e_Lok (e_st (I := eI) (er_ifeq (off := 17) (tg := 36) (x_dk dn_431_0_0_ok 11 rfl) (by decide)) nx_if1)))
  (e_Tok2
  (e_Lok (ld_iload_n_1 (x_dk dn_431_0_0_ok 12 rfl)))
  (e_Lok (ps_iconst_m1 (x_dk dn_431_0_0_ok 13 rfl)))))))
  (e_Tok2
  (e_Tok2
  (e_Tok2
  (e_Lok (e_st (I := eI) (er_icmpne (off := 15) (tg := 39) (x_dk dn_431_0_0_ok 14 rfl) (by decide)) nx_if2))
  (e_Tok2
  (e_Lok (ld_aload_n_0 (x_dk dn_431_0_0_ok 15 rfl)))
  (e_Lok (lk_12_8g ho_431 (x_dk dn_431_0_0_ok 16 rfl)))))
  (e_Tok2
  (e_Tok2
  (e_Lok (ps_iconst_1 (x_dk dn_431_0_0_ok 17 rfl)))
  (e_Lok (sm_iaload (x_dk dn_431_0_0_ok 18 rfl))))
  (e_Tok2
  (e_Lok (e_st (I := eI) (er_ifne (off := 6) (tg := 39) (x_dk dn_431_0_0_ok 19 rfl) (by decide)) nx_if1))
  (e_Lok (ps_bipush_m2 (x_dk dn_431_0_0_ok 20 rfl))))))
  (e_Tok2
  (e_Tok2
  (e_Lok (e_rt (I := eI) (k := 1) ⟨(x_dk dn_431_0_0_ok 21 rfl), rfl⟩))
  (e_Tok2
  (e_Lok (ld_aload_n_0 (x_dk dn_431_0_0_ok 22 rfl)))
  (e_Lok (lk_12_863 ho_431 (x_dk dn_431_0_0_ok 23 rfl)))))
  (e_Tok2
  (e_Tok2
  (e_Lok (e_st (I := eI) (er_ifeq (off := 6) (tg := 49) (x_dk dn_431_0_0_ok 24 rfl) (by decide)) nx_if1))
  (e_Lok (ps_bipush_m3 (x_dk dn_431_0_1_ok 0 rfl))))
  (e_Tok2
  (e_Lok (e_rt (I := eI) (k := 1) ⟨(x_dk dn_431_0_1_ok 1 rfl), rfl⟩))
  (e_Lok (ps_iconst_0 (x_dk dn_431_0_1_ok 2 rfl))))))))
def te_431_28 : Nat → eE := (e_T 73 (e_T 58 (e_T 52 (e_T 50 (e_L 50 (0, ei_stor 2 0 51, 0, 0)) (e_T 51 (e_L 51 (0, ei_load 1 0 52, 0, 0)) (e_L 52 (0, ei_push (0, (-1)) 53, 0, 0)))) (e_T 56 (e_T 53 (e_L 53 (0, ei_if2 1 65 56, 0, 0)) (e_L 56 (0, ei_load 0 2 57, 0, 0))) (e_T 57 (e_L 57 (0, ei_push (0, 4) 58, 0, 0)) (e_L 58 (0, ei_push (0, 0) 59, 0, 0))))) (e_T 65 (e_T 59 (e_L 59 (2, e_nof, 385, 3)) (e_T 62 (e_L 62 (0, ei_goto 82, 0, 0)) (e_L 65 (0, ei_load 0 2 66, 0, 0)))) (e_T 69 (e_T 66 (e_L 66 (0, ei_getf eft elay 12 0 69, 0, 0)) (e_L 69 (0, ei_load 1 0 70, 0, 0))) (e_T 70 (e_L 70 (2, e_nof, 268, 1)) (e_L 73 (0, ei_push (0, 0) 74, 0, 0)))))) (e_T 82 (e_T 76 (e_T 74 (e_L 74 (0, ei_bin eF_add 75, 0, 0)) (e_T 75 (e_L 75 (0, ei_ald elay false 76, 0, 0)) (e_L 76 (0, ei_stor 2 0 77, 0, 0)))) (e_T 78 (e_T 77 (e_L 77 (0, ei_load 0 2 78, 0, 0)) (e_L 78 (0, ei_load 1 0 79, 0, 0))) (e_T 79 (e_L 79 (2, e_nof, 384, 2)) (e_L 82 (0, ei_load 0 2 83, 0, 0))))) (e_T 86 (e_T 83 (e_L 83 (0, ei_push (0, 6) 85, 0, 0)) (e_T 85 (e_L 85 (0, ei_load 1 0 86, 0, 0)) (e_L 86 (0, ei_push (0, 0) 87, 0, 0)))) (e_T 88 (e_T 87 (e_L 87 (0, ei_push (0, 0) 88, 0, 0)) (e_L 88 (2, e_nof, 423, 5))) (e_T 91 (e_L 91 (0, ei_load 2 0 92, 0, 0)) (e_L 92 (1, e_nof, 1, 0)))))))
set_option maxRecDepth 20000 in
set_option maxHeartbeats 4000000 in
theorem te_431_28_ok : ∀ pc, e_EOq eft cls elay eI n_431 pc (te_431_28 pc) :=
  (e_Tok2
  (e_Tok2
  (e_Tok2
  (e_Tok2
  (e_Lok (e_st (I := eI) (er_istore_n (i := 2) (x_dk dn_431_0_1_ok 3 rfl) (by decide +kernel)) nx_stor))
  (e_Tok2
  (e_Lok (ld_iload_n_1 (x_dk dn_431_0_1_ok 4 rfl)))
  (e_Lok (ps_iconst_m1 (x_dk dn_431_0_1_ok 5 rfl)))))
  (e_Tok2
  (e_Tok2
  (e_Lok (e_st (I := eI) (er_icmpne (off := 12) (tg := 65) (x_dk dn_431_0_1_ok 6 rfl) (by decide)) nx_if2))
  (e_Lok (ld_aload_n_0 (x_dk dn_431_0_1_ok 7 rfl))))
  (e_Tok2
  (e_Lok (ps_iconst_4 (x_dk dn_431_0_1_ok 8 rfl)))
  (e_Lok (ps_iconst_0 (x_dk dn_431_0_1_ok 9 rfl))))))
  (e_Tok2
  (e_Tok2
  (e_Lok (lk_12_789 ho_431 (x_dk dn_431_0_1_ok 10 rfl)))
  (e_Tok2
  (e_Lok (e_st (I := eI) (er_goto (off := 20) (tg := 82) (x_dk dn_431_0_1_ok 11 rfl) (by decide)) nx_goto))
  (e_Lok (ld_aload_n_0 (x_dk dn_431_0_1_ok 12 rfl)))))
  (e_Tok2
  (e_Tok2
  (e_Lok (lk_12_8g ho_431 (x_dk dn_431_0_1_ok 13 rfl)))
  (e_Lok (ld_iload_n_1 (x_dk dn_431_0_1_ok 14 rfl))))
  (e_Tok2
  (e_Lok (lk_12_294 ho_431 (x_dk dn_431_0_1_ok 15 rfl)))
  (e_Lok (ps_iconst_0 (x_dk dn_431_0_1_ok 16 rfl)))))))
  (e_Tok2
  (e_Tok2
  (e_Tok2
  (e_Lok (sm_iadd (x_dk dn_431_0_1_ok 17 rfl)))
  (e_Tok2
  (e_Lok (sm_iaload (x_dk dn_431_0_1_ok 18 rfl)))
  (e_Lok (e_st (I := eI) (er_istore_n (i := 2) (x_dk dn_431_0_1_ok 19 rfl) (by decide +kernel)) nx_stor))))
  (e_Tok2
  (e_Tok2
  (e_Lok (ld_aload_n_0 (x_dk dn_431_0_1_ok 20 rfl)))
  (e_Lok (ld_iload_n_1 (x_dk dn_431_0_1_ok 21 rfl))))
  (e_Tok2
  (e_Lok (lk_12_699 ho_431 (x_dk dn_431_0_1_ok 22 rfl)))
  (e_Lok (ld_aload_n_0 (x_dk dn_431_0_1_ok 23 rfl))))))
  (e_Tok2
  (e_Tok2
  (e_Lok (ps_bipush_6 (x_dk dn_431_0_1_ok 24 rfl)))
  (e_Tok2
  (e_Lok (ld_iload_n_1 (x_dk dn_431_0_2_ok 0 rfl)))
  (e_Lok (ps_iconst_0 (x_dk dn_431_0_2_ok 1 rfl)))))
  (e_Tok2
  (e_Tok2
  (e_Lok (ps_iconst_0 (x_dk dn_431_0_2_ok 2 rfl)))
  (e_Lok (lk_12_866 ho_431 (x_dk dn_431_0_2_ok 3 rfl))))
  (e_Tok2
  (e_Lok (ld_iload_n_2 (x_dk dn_431_0_2_ok 4 rfl)))
  (e_Lok (e_rt (I := eI) (k := 1) ⟨(x_dk dn_431_0_2_ok 5 rfl), rfl⟩)))))))
def te_431 : Nat → eE := (e_T 49 te_431_0 te_431_28)
theorem te_431_ok : ∀ pc, e_EOq eft cls elay eI n_431 pc (te_431 pc) := (e_Tok2 (te_431_0_ok) (te_431_28_ok))
theorem ho_432 : (xm_y n_432).cls = "RobotCellHouseModel" := rfl
def dn_432_0_0 : List (Nat × Instr × Nat) := [(0, .aload_n 0, 1), (1, .iload_n 1, 1), (2, .invokevirtual 305, 3), (5, .ifCond .ne 5, 3), (8, .iconst (-1), 1), (9, .ireturn, 1), (10, .aload_n 0, 1), (11, .getfield 8, 3), (14, .iload_n 1, 1), (15, .invokestatic 294, 3), (18, .iconst 2, 1), (19, .iadd, 1), (20, .iaload, 1), (21, .istore_n 2, 1), (22, .aload_n 0, 1), (23, .getfield 265, 3), (26, .ifCond .eq 7, 3), (29, .iload_n 2, 1), (30, .ifCond .ge 6, 3), (33, .bipush (-2), 2), (35, .ireturn, 1), (36, .aload_n 0, 1), (37, .invokevirtual 863, 3), (40, .ifCond .eq 6, 3), (43, .bipush (-3), 2)]
set_option maxRecDepth 20000 in
theorem dn_432_0_0_ok : dn_432_0_0.all (fun q => decide (decode (xm_b n_432) q.1 = .ok (q.2.1, q.2.2))) = true := xa_g_ok (by decide +kernel)
def dn_432_0_1 : List (Nat × Instr × Nat) := [(45, .ireturn, 1), (46, .aload_n 0, 1), (47, .getfield 8, 3), (50, .iload_n 2, 1), (51, .invokestatic 298, 3), (54, .bipush 6, 2), (56, .iastore, 1), (57, .aload_n 0, 1), (58, .getfield 8, 3), (61, .iload_n 1, 1), (62, .invokestatic 294, 3), (65, .iconst 2, 1), (66, .iadd, 1), (67, .iconst (-1), 1), (68, .iastore, 1), (69, .aload_n 0, 1), (70, .bipush 7, 2), (72, .iload_n 1, 1), (73, .iconst 0, 1), (74, .iconst 0, 1), (75, .invokevirtual 866, 3), (78, .iload_n 2, 1), (79, .ireturn, 1)]
set_option maxRecDepth 20000 in
theorem dn_432_0_1_ok : dn_432_0_1.all (fun q => decide (decode (xm_b n_432) q.1 = .ok (q.2.1, q.2.2))) = true := xa_g_ok (by decide +kernel)
def te_432_0 : Nat → eE := (e_T 19 (e_T 9 (e_T 2 (e_T 0 (e_L 0 (0, ei_load 0 2 1, 0, 0)) (e_T 1 (e_L 1 (0, ei_load 1 0 2, 0, 0)) (e_L 2 (2, e_nof, 270, 2)))) (e_T 5 (e_L 5 (0, ei_if1 1 10 8, 0, 0)) (e_T 8 (e_L 8 (0, ei_push (0, (-1)) 9, 0, 0)) (e_L 9 (1, e_nof, 1, 0))))) (e_T 14 (e_T 10 (e_L 10 (0, ei_load 0 2 11, 0, 0)) (e_T 11 (e_L 11 (0, ei_getf eft elay 12 0 14, 0, 0)) (e_L 14 (0, ei_load 1 0 15, 0, 0)))) (e_T 15 (e_L 15 (2, e_nof, 268, 1)) (e_T 18 (e_L 18 (0, ei_push (0, 2) 19, 0, 0)) (e_L 19 (0, ei_bin eF_add 20, 0, 0)))))) (e_T 29 (e_T 22 (e_T 20 (e_L 20 (0, ei_ald elay false 21, 0, 0)) (e_T 21 (e_L 21 (0, ei_stor 2 0 22, 0, 0)) (e_L 22 (0, ei_load 0 2 23, 0, 0)))) (e_T 23 (e_L 23 (0, ei_getf eft elay 12 3 26, 0, 0)) (e_T 26 (e_L 26 (0, ei_if1 0 33 29, 0, 0)) (e_L 29 (0, ei_load 2 0 30, 0, 0))))) (e_T 35 (e_T 30 (e_L 30 (0, ei_if1 3 36 33, 0, 0)) (e_T 33 (e_L 33 (0, ei_push (0, (-2)) 35, 0, 0)) (e_L 35 (1, e_nof, 1, 0)))) (e_T 36 (e_L 36 (0, ei_load 0 2 37, 0, 0)) (e_T 37 (e_L 37 (2, e_nof, 422, 1)) (e_L 40 (0, ei_if1 0 46 43, 0, 0)))))))
set_option maxRecDepth 20000 in
set_option maxHeartbeats 4000000 in
theorem te_432_0_ok : ∀ pc, e_EOq eft cls elay eI n_432 pc (te_432_0 pc) :=
  (e_Tok2
  (e_Tok2
  (e_Tok2
  (e_Tok2
  (e_Lok (ld_aload_n_0 (x_dk dn_432_0_0_ok 0 rfl)))
  (e_Tok2
  (e_Lok (ld_iload_n_1 (x_dk dn_432_0_0_ok 1 rfl)))
  (e_Lok (lk_12_305 ho_432 (x_dk dn_432_0_0_ok 2 rfl)))))
  (e_Tok2
  (e_Lok (e_st (I := eI) (er_ifne (off := 5) (tg := 10) (x_dk dn_432_0_0_ok 3 rfl) (by decide)) nx_if1))
  (e_Tok2
  (e_Lok (ps_iconst_m1 (x_dk dn_432_0_0_ok 4 rfl)))
  (e_Lok (e_rt (I := eI) (k := 1) ⟨(x_dk dn_432_0_0_ok 5 rfl), rfl⟩)))))
  (e_Tok2
  (e_Tok2
  (e_Lok (ld_aload_n_0 (x_dk dn_432_0_0_ok 6 rfl)))
  (e_Tok2
  (e_Lok (lk_12_8g ho_432 (x_dk dn_432_0_0_ok 7 rfl)))
  (e_Lok (ld_iload_n_1 (x_dk dn_432_0_0_ok 8 rfl)))))
  (e_Tok2
  (e_Lok (lk_12_294 ho_432 (x_dk dn_432_0_0_ok 9 rfl)))
  (e_Tok2
  (e_Lok (ps_iconst_2 (x_dk dn_432_0_0_ok 10 rfl)))
  (e_Lok (sm_iadd (x_dk dn_432_0_0_ok 11 rfl)))))))
  (e_Tok2
  (e_Tok2
  (e_Tok2
  (e_Lok (sm_iaload (x_dk dn_432_0_0_ok 12 rfl)))
  (e_Tok2
  (e_Lok (e_st (I := eI) (er_istore_n (i := 2) (x_dk dn_432_0_0_ok 13 rfl) (by decide +kernel)) nx_stor))
  (e_Lok (ld_aload_n_0 (x_dk dn_432_0_0_ok 14 rfl)))))
  (e_Tok2
  (e_Lok (lk_12_265g ho_432 (x_dk dn_432_0_0_ok 15 rfl)))
  (e_Tok2
  (e_Lok (e_st (I := eI) (er_ifeq (off := 7) (tg := 33) (x_dk dn_432_0_0_ok 16 rfl) (by decide)) nx_if1))
  (e_Lok (ld_iload_n_2 (x_dk dn_432_0_0_ok 17 rfl))))))
  (e_Tok2
  (e_Tok2
  (e_Lok (e_st (I := eI) (er_ifge (off := 6) (tg := 36) (x_dk dn_432_0_0_ok 18 rfl) (by decide)) nx_if1))
  (e_Tok2
  (e_Lok (ps_bipush_m2 (x_dk dn_432_0_0_ok 19 rfl)))
  (e_Lok (e_rt (I := eI) (k := 1) ⟨(x_dk dn_432_0_0_ok 20 rfl), rfl⟩))))
  (e_Tok2
  (e_Lok (ld_aload_n_0 (x_dk dn_432_0_0_ok 21 rfl)))
  (e_Tok2
  (e_Lok (lk_12_863 ho_432 (x_dk dn_432_0_0_ok 22 rfl)))
  (e_Lok (e_st (I := eI) (er_ifeq (off := 6) (tg := 46) (x_dk dn_432_0_0_ok 23 rfl) (by decide)) nx_if1)))))))
def te_432_24 : Nat → eE := (e_T 62 (e_T 51 (e_T 46 (e_T 43 (e_L 43 (0, ei_push (0, (-3)) 45, 0, 0)) (e_T 45 (e_L 45 (1, e_nof, 1, 0)) (e_L 46 (0, ei_load 0 2 47, 0, 0)))) (e_T 47 (e_L 47 (0, ei_getf eft elay 12 0 50, 0, 0)) (e_T 50 (e_L 50 (0, ei_load 2 0 51, 0, 0)) (e_L 51 (2, e_nof, 269, 1))))) (e_T 57 (e_T 54 (e_L 54 (0, ei_push (0, 6) 56, 0, 0)) (e_T 56 (e_L 56 (0, ei_ast elay false 57, 0, 0)) (e_L 57 (0, ei_load 0 2 58, 0, 0)))) (e_T 58 (e_L 58 (0, ei_getf eft elay 12 0 61, 0, 0)) (e_T 61 (e_L 61 (0, ei_load 1 0 62, 0, 0)) (e_L 62 (2, e_nof, 268, 1)))))) (e_T 70 (e_T 67 (e_T 65 (e_L 65 (0, ei_push (0, 2) 66, 0, 0)) (e_T 66 (e_L 66 (0, ei_bin eF_add 67, 0, 0)) (e_L 67 (0, ei_push (0, (-1)) 68, 0, 0)))) (e_T 68 (e_L 68 (0, ei_ast elay false 69, 0, 0)) (e_T 69 (e_L 69 (0, ei_load 0 2 70, 0, 0)) (e_L 70 (0, ei_push (0, 7) 72, 0, 0))))) (e_T 74 (e_T 72 (e_L 72 (0, ei_load 1 0 73, 0, 0)) (e_T 73 (e_L 73 (0, ei_push (0, 0) 74, 0, 0)) (e_L 74 (0, ei_push (0, 0) 75, 0, 0)))) (e_T 75 (e_L 75 (2, e_nof, 423, 5)) (e_T 78 (e_L 78 (0, ei_load 2 0 79, 0, 0)) (e_L 79 (1, e_nof, 1, 0)))))))
set_option maxRecDepth 20000 in
set_option maxHeartbeats 4000000 in
theorem te_432_24_ok : ∀ pc, e_EOq eft cls elay eI n_432 pc (te_432_24 pc) :=
  (e_Tok2
  (e_Tok2
  (e_Tok2
  (e_Tok2
  (e_Lok (ps_bipush_m3 (x_dk dn_432_0_0_ok 24 rfl)))
  (e_Tok2
  (e_Lok (e_rt (I := eI) (k := 1) ⟨(x_dk dn_432_0_1_ok 0 rfl), rfl⟩))
  (e_Lok (ld_aload_n_0 (x_dk dn_432_0_1_ok 1 rfl)))))
  (e_Tok2
  (e_Lok (lk_12_8g ho_432 (x_dk dn_432_0_1_ok 2 rfl)))
  (e_Tok2
  (e_Lok (ld_iload_n_2 (x_dk dn_432_0_1_ok 3 rfl)))
  (e_Lok (lk_12_298 ho_432 (x_dk dn_432_0_1_ok 4 rfl))))))
  (e_Tok2
  (e_Tok2
  (e_Lok (ps_bipush_6 (x_dk dn_432_0_1_ok 5 rfl)))
  (e_Tok2
  (e_Lok (sm_iastore (x_dk dn_432_0_1_ok 6 rfl)))
  (e_Lok (ld_aload_n_0 (x_dk dn_432_0_1_ok 7 rfl)))))
  (e_Tok2
  (e_Lok (lk_12_8g ho_432 (x_dk dn_432_0_1_ok 8 rfl)))
  (e_Tok2
  (e_Lok (ld_iload_n_1 (x_dk dn_432_0_1_ok 9 rfl)))
  (e_Lok (lk_12_294 ho_432 (x_dk dn_432_0_1_ok 10 rfl)))))))
  (e_Tok2
  (e_Tok2
  (e_Tok2
  (e_Lok (ps_iconst_2 (x_dk dn_432_0_1_ok 11 rfl)))
  (e_Tok2
  (e_Lok (sm_iadd (x_dk dn_432_0_1_ok 12 rfl)))
  (e_Lok (ps_iconst_m1 (x_dk dn_432_0_1_ok 13 rfl)))))
  (e_Tok2
  (e_Lok (sm_iastore (x_dk dn_432_0_1_ok 14 rfl)))
  (e_Tok2
  (e_Lok (ld_aload_n_0 (x_dk dn_432_0_1_ok 15 rfl)))
  (e_Lok (ps_bipush_7 (x_dk dn_432_0_1_ok 16 rfl))))))
  (e_Tok2
  (e_Tok2
  (e_Lok (ld_iload_n_1 (x_dk dn_432_0_1_ok 17 rfl)))
  (e_Tok2
  (e_Lok (ps_iconst_0 (x_dk dn_432_0_1_ok 18 rfl)))
  (e_Lok (ps_iconst_0 (x_dk dn_432_0_1_ok 19 rfl)))))
  (e_Tok2
  (e_Lok (lk_12_866 ho_432 (x_dk dn_432_0_1_ok 20 rfl)))
  (e_Tok2
  (e_Lok (ld_iload_n_2 (x_dk dn_432_0_1_ok 21 rfl)))
  (e_Lok (e_rt (I := eI) (k := 1) ⟨(x_dk dn_432_0_1_ok 22 rfl), rfl⟩)))))))
def te_432 : Nat → eE := (e_T 40 te_432_0 te_432_24)
theorem te_432_ok : ∀ pc, e_EOq eft cls elay eI n_432 pc (te_432 pc) := (e_Tok2 (te_432_0_ok) (te_432_24_ok))
theorem ho_433 : (xm_y n_433).cls = "RobotCellHouseModel" := rfl
def dn_433_0_0 : List (Nat × Instr × Nat) := [(0, .aload_n 0, 1), (1, .iload_n 1, 1), (2, .iload_n 2, 1), (3, .invokevirtual 333, 3), (6, .ifCond .eq 35, 3), (9, .iload_n 3, 1), (10, .i2l, 1), (11, .aload_n 0, 1), (12, .getfield 49, 3), (15, .bipush 6, 2), (17, .iload_n 1, 1), (18, .imul, 1), (19, .iload_n 2, 1), (20, .iadd, 1), (21, .iaload, 1), (22, .i2l, 1), (23, .aload_n 0, 1), (24, .getfield 52, 3), (27, .bipush 6, 2), (29, .iload_n 1, 1), (30, .imul, 1), (31, .iload_n 2, 1), (32, .iadd, 1), (33, .iaload, 1), (34, .i2l, 1)]
set_option maxRecDepth 20000 in
theorem dn_433_0_0_ok : dn_433_0_0.all (fun q => decide (decode (xm_b n_433) q.1 = .ok (q.2.1, q.2.2))) = true := xa_g_ok (by decide +kernel)
def dn_433_0_1 : List (Nat × Instr × Nat) := [(35, .invokestatic 301, 3), (38, .ifCond .ne 5, 3), (41, .iconst (-1), 1), (42, .ireturn, 1), (43, .aload_n 0, 1), (44, .getfield 265, 3), (47, .ifCond .eq 13, 3), (50, .aload_n 0, 1), (51, .getfield 8, 3), (54, .iconst 1, 1), (55, .iaload, 1), (56, .iconst 1, 1), (57, .if_icmp .ne 6, 3), (60, .bipush (-2), 2), (62, .ireturn, 1), (63, .aload_n 0, 1), (64, .invokevirtual 863, 3), (67, .ifCond .eq 6, 3), (70, .bipush (-3), 2), (72, .ireturn, 1), (73, .aload_n 0, 1), (74, .getfield 8, 3), (77, .iload_n 1, 1), (78, .invokestatic 294, 3), (81, .bipush 16, 2)]
set_option maxRecDepth 20000 in
theorem dn_433_0_1_ok : dn_433_0_1.all (fun q => decide (decode (xm_b n_433) q.1 = .ok (q.2.1, q.2.2))) = true := xa_g_ok (by decide +kernel)
def dn_433_0_2 : List (Nat × Instr × Nat) := [(83, .iadd, 1), (84, .iload_n 2, 1), (85, .iadd, 1), (86, .iaload, 1), (87, .istore 4, 2), (89, .aload_n 0, 1), (90, .getfield 8, 3), (93, .iload_n 1, 1), (94, .invokestatic 294, 3), (97, .bipush 16, 2), (99, .iadd, 1), (100, .iload_n 2, 1), (101, .iadd, 1), (102, .iload_n 3, 1), (103, .iastore, 1), (104, .iload 4, 2), (106, .iload_n 3, 1), (107, .if_icmp .eq 8, 3), (110, .aload_n 0, 1), (111, .iload_n 1, 1), (112, .invokevirtual 762, 3), (115, .aload_n 0, 1), (116, .bipush 8, 2), (118, .iload_n 1, 1), (119, .iload_n 2, 1)]
set_option maxRecDepth 20000 in
theorem dn_433_0_2_ok : dn_433_0_2.all (fun q => decide (decode (xm_b n_433) q.1 = .ok (q.2.1, q.2.2))) = true := xa_g_ok (by decide +kernel)
def dn_433_0_3 : List (Nat × Instr × Nat) := [(120, .iload_n 3, 1), (121, .invokevirtual 866, 3), (124, .iload 4, 2), (126, .ireturn, 1)]
set_option maxRecDepth 20000 in
theorem dn_433_0_3_ok : dn_433_0_3.all (fun q => decide (decode (xm_b n_433) q.1 = .ok (q.2.1, q.2.2))) = true := xa_g_ok (by decide +kernel)
def te_433_0 : Nat → eE := (e_T 27 (e_T 12 (e_T 3 (e_T 1 (e_T 0 (e_L 0 (0, ei_load 0 2 1, 0, 0)) (e_L 1 (0, ei_load 1 0 2, 0, 0))) (e_T 2 (e_L 2 (0, ei_load 2 0 3, 0, 0)) (e_L 3 (2, e_nof, 271, 3)))) (e_T 9 (e_T 6 (e_L 6 (0, ei_if1 0 41 9, 0, 0)) (e_L 9 (0, ei_load 3 0 10, 0, 0))) (e_T 10 (e_L 10 (0, ei_un (fun x => (4, x)) 11, 0, 0)) (e_T 11 (e_L 11 (0, ei_load 0 2 12, 0, 0)) (e_L 12 (0, ei_getf eft elay 12 17 15, 0, 0)))))) (e_T 20 (e_T 17 (e_T 15 (e_L 15 (0, ei_push (0, 6) 17, 0, 0)) (e_L 17 (0, ei_load 1 0 18, 0, 0))) (e_T 18 (e_L 18 (0, ei_bin eF_mul 19, 0, 0)) (e_T 19 (e_L 19 (0, ei_load 2 0 20, 0, 0)) (e_L 20 (0, ei_bin eF_add 21, 0, 0))))) (e_T 22 (e_T 21 (e_L 21 (0, ei_ald elay false 22, 0, 0)) (e_L 22 (0, ei_un (fun x => (4, x)) 23, 0, 0))) (e_T 23 (e_L 23 (0, ei_load 0 2 24, 0, 0)) (e_T 24 (e_L 24 (0, ei_getf eft elay 12 18 27, 0, 0)) (e_L 27 (0, ei_push (0, 6) 29, 0, 0))))))) (e_T 42 (e_T 33 (e_T 30 (e_T 29 (e_L 29 (0, ei_load 1 0 30, 0, 0)) (e_L 30 (0, ei_bin eF_mul 31, 0, 0))) (e_T 31 (e_L 31 (0, ei_load 2 0 32, 0, 0)) (e_T 32 (e_L 32 (0, ei_bin eF_add 33, 0, 0)) (e_L 33 (0, ei_ald elay false 34, 0, 0))))) (e_T 35 (e_T 34 (e_L 34 (0, ei_un (fun x => (4, x)) 35, 0, 0)) (e_L 35 (2, e_nof, 266, 3))) (e_T 38 (e_L 38 (0, ei_if1 1 43 41, 0, 0)) (e_T 41 (e_L 41 (0, ei_push (0, (-1)) 42, 0, 0)) (e_L 42 (1, e_nof, 1, 0)))))) (e_T 51 (e_T 44 (e_T 43 (e_L 43 (0, ei_load 0 2 44, 0, 0)) (e_L 44 (0, ei_getf eft elay 12 3 47, 0, 0))) (e_T 47 (e_L 47 (0, ei_if1 0 60 50, 0, 0)) (e_T 50 (e_L 50 (0, ei_load 0 2 51, 0, 0)) (e_L 51 (0, ei_getf eft elay 12 0 54, 0, 0))))) (e_T 55 (e_T 54 (e_L 54 (0, ei_push (0, 1) 55, 0, 0)) (e_L 55 (0, ei_ald elay false 56, 0, 0))) (e_T 56 (e_L 56 (0, ei_push (0, 1) 57, 0, 0)) (e_T 57 (e_L 57 (0, ei_if2 1 63 60, 0, 0)) (e_L 60 (0, ei_push (0, (-2)) 62, 0, 0))))))))
set_option maxRecDepth 20000 in
set_option maxHeartbeats 4000000 in
theorem te_433_0_ok : ∀ pc, e_EOq eft cls elay eI n_433 pc (te_433_0 pc) :=
  (e_Tok2
  (e_Tok2
  (e_Tok2
  (e_Tok2
  (e_Tok2
  (e_Lok (ld_aload_n_0 (x_dk dn_433_0_0_ok 0 rfl)))
  (e_Lok (ld_iload_n_1 (x_dk dn_433_0_0_ok 1 rfl))))
  (e_Tok2
  (e_Lok (ld_iload_n_2 (x_dk dn_433_0_0_ok 2 rfl)))
  (e_Lok (lk_12_333 ho_433 (x_dk dn_433_0_0_ok 3 rfl)))))
  (e_Tok2
  (e_Tok2
  (e_Lok (e_st (I := eI) (er_ifeq (off := 35) (tg := 41) (x_dk dn_433_0_0_ok 4 rfl) (by decide)) nx_if1))
  (e_Lok (ld_iload_n_3 (x_dk dn_433_0_0_ok 5 rfl))))
  (e_Tok2
  (e_Lok (e_st (I := eI) (er_i2l (x_dk dn_433_0_0_ok 6 rfl)) (nx_un (fun _ => rfl))))
  (e_Tok2
  (e_Lok (ld_aload_n_0 (x_dk dn_433_0_0_ok 7 rfl)))
  (e_Lok (lk_12_49g ho_433 (x_dk dn_433_0_0_ok 8 rfl)))))))
  (e_Tok2
  (e_Tok2
  (e_Tok2
  (e_Lok (ps_bipush_6 (x_dk dn_433_0_0_ok 9 rfl)))
  (e_Lok (ld_iload_n_1 (x_dk dn_433_0_0_ok 10 rfl))))
  (e_Tok2
  (e_Lok (sm_imul (x_dk dn_433_0_0_ok 11 rfl)))
  (e_Tok2
  (e_Lok (ld_iload_n_2 (x_dk dn_433_0_0_ok 12 rfl)))
  (e_Lok (sm_iadd (x_dk dn_433_0_0_ok 13 rfl))))))
  (e_Tok2
  (e_Tok2
  (e_Lok (sm_iaload (x_dk dn_433_0_0_ok 14 rfl)))
  (e_Lok (e_st (I := eI) (er_i2l (x_dk dn_433_0_0_ok 15 rfl)) (nx_un (fun _ => rfl)))))
  (e_Tok2
  (e_Lok (ld_aload_n_0 (x_dk dn_433_0_0_ok 16 rfl)))
  (e_Tok2
  (e_Lok (lk_12_52g ho_433 (x_dk dn_433_0_0_ok 17 rfl)))
  (e_Lok (ps_bipush_6 (x_dk dn_433_0_0_ok 18 rfl))))))))
  (e_Tok2
  (e_Tok2
  (e_Tok2
  (e_Tok2
  (e_Lok (ld_iload_n_1 (x_dk dn_433_0_0_ok 19 rfl)))
  (e_Lok (sm_imul (x_dk dn_433_0_0_ok 20 rfl))))
  (e_Tok2
  (e_Lok (ld_iload_n_2 (x_dk dn_433_0_0_ok 21 rfl)))
  (e_Tok2
  (e_Lok (sm_iadd (x_dk dn_433_0_0_ok 22 rfl)))
  (e_Lok (sm_iaload (x_dk dn_433_0_0_ok 23 rfl))))))
  (e_Tok2
  (e_Tok2
  (e_Lok (e_st (I := eI) (er_i2l (x_dk dn_433_0_0_ok 24 rfl)) (nx_un (fun _ => rfl))))
  (e_Lok (lk_12_301 ho_433 (x_dk dn_433_0_1_ok 0 rfl))))
  (e_Tok2
  (e_Lok (e_st (I := eI) (er_ifne (off := 5) (tg := 43) (x_dk dn_433_0_1_ok 1 rfl) (by decide)) nx_if1))
  (e_Tok2
  (e_Lok (ps_iconst_m1 (x_dk dn_433_0_1_ok 2 rfl)))
  (e_Lok (e_rt (I := eI) (k := 1) ⟨(x_dk dn_433_0_1_ok 3 rfl), rfl⟩))))))
  (e_Tok2
  (e_Tok2
  (e_Tok2
  (e_Lok (ld_aload_n_0 (x_dk dn_433_0_1_ok 4 rfl)))
  (e_Lok (lk_12_265g ho_433 (x_dk dn_433_0_1_ok 5 rfl))))
  (e_Tok2
  (e_Lok (e_st (I := eI) (er_ifeq (off := 13) (tg := 60) (x_dk dn_433_0_1_ok 6 rfl) (by decide)) nx_if1))
  (e_Tok2
  (e_Lok (ld_aload_n_0 (x_dk dn_433_0_1_ok 7 rfl)))
  (e_Lok (lk_12_8g ho_433 (x_dk dn_433_0_1_ok 8 rfl))))))
  (e_Tok2
  (e_Tok2
  (e_Lok (ps_iconst_1 (x_dk dn_433_0_1_ok 9 rfl)))
  (e_Lok (sm_iaload (x_dk dn_433_0_1_ok 10 rfl))))
  (e_Tok2
  (e_Lok (ps_iconst_1 (x_dk dn_433_0_1_ok 11 rfl)))
  (e_Tok2
  (e_Lok (e_st (I := eI) (er_icmpne (off := 6) (tg := 63) (x_dk dn_433_0_1_ok 12 rfl) (by decide)) nx_if2))
  (e_Lok (ps_bipush_m2 (x_dk dn_433_0_1_ok 13 rfl)))))))))
def te_433_39 : Nat → eE := (e_T 94 (e_T 78 (e_T 70 (e_T 63 (e_T 62 (e_L 62 (1, e_nof, 1, 0)) (e_L 63 (0, ei_load 0 2 64, 0, 0))) (e_T 64 (e_L 64 (2, e_nof, 422, 1)) (e_T 67 (e_L 67 (0, ei_if1 0 73 70, 0, 0)) (e_L 70 (0, ei_push (0, (-3)) 72, 0, 0))))) (e_T 73 (e_T 72 (e_L 72 (1, e_nof, 1, 0)) (e_L 73 (0, ei_load 0 2 74, 0, 0))) (e_T 74 (e_L 74 (0, ei_getf eft elay 12 0 77, 0, 0)) (e_T 77 (e_L 77 (0, ei_load 1 0 78, 0, 0)) (e_L 78 (2, e_nof, 268, 1)))))) (e_T 86 (e_T 83 (e_T 81 (e_L 81 (0, ei_push (0, 16) 83, 0, 0)) (e_L 83 (0, ei_bin eF_add 84, 0, 0))) (e_T 84 (e_L 84 (0, ei_load 2 0 85, 0, 0)) (e_T 85 (e_L 85 (0, ei_bin eF_add 86, 0, 0)) (e_L 86 (0, ei_ald elay false 87, 0, 0))))) (e_T 89 (e_T 87 (e_L 87 (0, ei_stor 4 0 89, 0, 0)) (e_L 89 (0, ei_load 0 2 90, 0, 0))) (e_T 90 (e_L 90 (0, ei_getf eft elay 12 0 93, 0, 0)) (e_T 93 (e_L 93 (0, ei_load 1 0 94, 0, 0)) (e_L 94 (2, e_nof, 268, 1))))))) (e_T 110 (e_T 102 (e_T 99 (e_T 97 (e_L 97 (0, ei_push (0, 16) 99, 0, 0)) (e_L 99 (0, ei_bin eF_add 100, 0, 0))) (e_T 100 (e_L 100 (0, ei_load 2 0 101, 0, 0)) (e_T 101 (e_L 101 (0, ei_bin eF_add 102, 0, 0)) (e_L 102 (0, ei_load 3 0 103, 0, 0))))) (e_T 104 (e_T 103 (e_L 103 (0, ei_ast elay false 104, 0, 0)) (e_L 104 (0, ei_load 4 0 106, 0, 0))) (e_T 106 (e_L 106 (0, ei_load 3 0 107, 0, 0)) (e_T 107 (e_L 107 (0, ei_if2 0 115 110, 0, 0)) (e_L 110 (0, ei_load 0 2 111, 0, 0)))))) (e_T 118 (e_T 112 (e_T 111 (e_L 111 (0, ei_load 1 0 112, 0, 0)) (e_L 112 (2, e_nof, 390, 2))) (e_T 115 (e_L 115 (0, ei_load 0 2 116, 0, 0)) (e_T 116 (e_L 116 (0, ei_push (0, 8) 118, 0, 0)) (e_L 118 (0, ei_load 1 0 119, 0, 0))))) (e_T 120 (e_T 119 (e_L 119 (0, ei_load 2 0 120, 0, 0)) (e_L 120 (0, ei_load 3 0 121, 0, 0))) (e_T 121 (e_L 121 (2, e_nof, 423, 5)) (e_T 124 (e_L 124 (0, ei_load 4 0 126, 0, 0)) (e_L 126 (1, e_nof, 1, 0))))))))
set_option maxRecDepth 20000 in
set_option maxHeartbeats 4000000 in
theorem te_433_39_ok : ∀ pc, e_EOq eft cls elay eI n_433 pc (te_433_39 pc) :=
  (e_Tok2
  (e_Tok2
  (e_Tok2
  (e_Tok2
  (e_Tok2
  (e_Lok (e_rt (I := eI) (k := 1) ⟨(x_dk dn_433_0_1_ok 14 rfl), rfl⟩))
  (e_Lok (ld_aload_n_0 (x_dk dn_433_0_1_ok 15 rfl))))
  (e_Tok2
  (e_Lok (lk_12_863 ho_433 (x_dk dn_433_0_1_ok 16 rfl)))
  (e_Tok2
  (e_Lok (e_st (I := eI) (er_ifeq (off := 6) (tg := 73) (x_dk dn_433_0_1_ok 17 rfl) (by decide)) nx_if1))
  (e_Lok (ps_bipush_m3 (x_dk dn_433_0_1_ok 18 rfl))))))
  (e_Tok2
  (e_Tok2
  (e_Lok (e_rt (I := eI) (k := 1) ⟨(x_dk dn_433_0_1_ok 19 rfl), rfl⟩))
  (e_Lok (ld_aload_n_0 (x_dk dn_433_0_1_ok 20 rfl))))
  (e_Tok2
  (e_Lok (lk_12_8g ho_433 (x_dk dn_433_0_1_ok 21 rfl)))
  (e_Tok2
  (e_Lok (ld_iload_n_1 (x_dk dn_433_0_1_ok 22 rfl)))
  (e_Lok (lk_12_294 ho_433 (x_dk dn_433_0_1_ok 23 rfl)))))))
  (e_Tok2
  (e_Tok2
  (e_Tok2
  (e_Lok (ps_bipush_16 (x_dk dn_433_0_1_ok 24 rfl)))
  (e_Lok (sm_iadd (x_dk dn_433_0_2_ok 0 rfl))))
  (e_Tok2
  (e_Lok (ld_iload_n_2 (x_dk dn_433_0_2_ok 1 rfl)))
  (e_Tok2
  (e_Lok (sm_iadd (x_dk dn_433_0_2_ok 2 rfl)))
  (e_Lok (sm_iaload (x_dk dn_433_0_2_ok 3 rfl))))))
  (e_Tok2
  (e_Tok2
  (e_Lok (e_st (I := eI) (er_istore (i := 4) (x_dk dn_433_0_2_ok 4 rfl) (by decide +kernel)) nx_stor))
  (e_Lok (ld_aload_n_0 (x_dk dn_433_0_2_ok 5 rfl))))
  (e_Tok2
  (e_Lok (lk_12_8g ho_433 (x_dk dn_433_0_2_ok 6 rfl)))
  (e_Tok2
  (e_Lok (ld_iload_n_1 (x_dk dn_433_0_2_ok 7 rfl)))
  (e_Lok (lk_12_294 ho_433 (x_dk dn_433_0_2_ok 8 rfl))))))))
  (e_Tok2
  (e_Tok2
  (e_Tok2
  (e_Tok2
  (e_Lok (ps_bipush_16 (x_dk dn_433_0_2_ok 9 rfl)))
  (e_Lok (sm_iadd (x_dk dn_433_0_2_ok 10 rfl))))
  (e_Tok2
  (e_Lok (ld_iload_n_2 (x_dk dn_433_0_2_ok 11 rfl)))
  (e_Tok2
  (e_Lok (sm_iadd (x_dk dn_433_0_2_ok 12 rfl)))
  (e_Lok (ld_iload_n_3 (x_dk dn_433_0_2_ok 13 rfl))))))
  (e_Tok2
  (e_Tok2
  (e_Lok (sm_iastore (x_dk dn_433_0_2_ok 14 rfl)))
  (e_Lok (ld_iload_4 (x_dk dn_433_0_2_ok 15 rfl))))
  (e_Tok2
  (e_Lok (ld_iload_n_3 (x_dk dn_433_0_2_ok 16 rfl)))
  (e_Tok2
  (e_Lok (e_st (I := eI) (er_icmpeq (off := 8) (tg := 115) (x_dk dn_433_0_2_ok 17 rfl) (by decide)) nx_if2))
  (e_Lok (ld_aload_n_0 (x_dk dn_433_0_2_ok 18 rfl)))))))
  (e_Tok2
  (e_Tok2
  (e_Tok2
  (e_Lok (ld_iload_n_1 (x_dk dn_433_0_2_ok 19 rfl)))
  (e_Lok (lk_12_762 ho_433 (x_dk dn_433_0_2_ok 20 rfl))))
  (e_Tok2
  (e_Lok (ld_aload_n_0 (x_dk dn_433_0_2_ok 21 rfl)))
  (e_Tok2
  (e_Lok (ps_bipush_8 (x_dk dn_433_0_2_ok 22 rfl)))
  (e_Lok (ld_iload_n_1 (x_dk dn_433_0_2_ok 23 rfl))))))
  (e_Tok2
  (e_Tok2
  (e_Lok (ld_iload_n_2 (x_dk dn_433_0_2_ok 24 rfl)))
  (e_Lok (ld_iload_n_3 (x_dk dn_433_0_3_ok 0 rfl))))
  (e_Tok2
  (e_Lok (lk_12_866 ho_433 (x_dk dn_433_0_3_ok 1 rfl)))
  (e_Tok2
  (e_Lok (ld_iload_4 (x_dk dn_433_0_3_ok 2 rfl)))
  (e_Lok (e_rt (I := eI) (k := 1) ⟨(x_dk dn_433_0_3_ok 3 rfl), rfl⟩))))))))
def te_433 : Nat → eE := (e_T 60 te_433_0 te_433_39)
theorem te_433_ok : ∀ pc, e_EOq eft cls elay eI n_433 pc (te_433 pc) := (e_Tok2 (te_433_0_ok) (te_433_39_ok))
theorem ho_434 : (xm_y n_434).cls = "RobotCellHouseModel" := rfl
def dn_434_0_0 : List (Nat × Instr × Nat) := [(0, .iload_n 1, 1), (1, .i2l, 1), (2, .lconst 0, 1), (3, .ldc2_w 879, 3), (6, .invokestatic 301, 3), (9, .ifCond .ne 5, 3), (12, .iconst (-1), 1), (13, .ireturn, 1), (14, .aload_n 0, 1), (15, .getfield 265, 3), (18, .ifCond .ne 6, 3), (21, .bipush (-2), 2), (23, .ireturn, 1), (24, .aload_n 0, 1), (25, .invokevirtual 863, 3), (28, .ifCond .eq 6, 3), (31, .bipush (-3), 2), (33, .ireturn, 1), (34, .aload_n 0, 1), (35, .getfield 8, 3), (38, .bipush 8, 2), (40, .iload_n 1, 1), (41, .iadd, 1), (42, .iload_n 2, 1), (43, .iastore, 1)]
set_option maxRecDepth 20000 in
theorem dn_434_0_0_ok : dn_434_0_0.all (fun q => decide (decode (xm_b n_434) q.1 = .ok (q.2.1, q.2.2))) = true := xa_g_ok (by decide +kernel)
def dn_434_0_1 : List (Nat × Instr × Nat) := [(44, .aload_n 0, 1), (45, .bipush 9, 2), (47, .iload_n 1, 1), (48, .iload_n 2, 1), (49, .iconst 0, 1), (50, .invokevirtual 866, 3), (53, .iconst 0, 1), (54, .ireturn, 1)]
set_option maxRecDepth 20000 in
theorem dn_434_0_1_ok : dn_434_0_1.all (fun q => decide (decode (xm_b n_434) q.1 = .ok (q.2.1, q.2.2))) = true := xa_g_ok (by decide +kernel)
def te_434_0 : Nat → eE := (e_T 28 (e_T 13 (e_T 3 (e_T 1 (e_T 0 (e_L 0 (0, ei_load 1 0 1, 0, 0)) (e_L 1 (0, ei_un (fun x => (4, x)) 2, 0, 0))) (e_T 2 (e_L 2 (0, ei_push (4, 0) 3, 0, 0)) (e_L 3 (0, ei_push (4, 5) 6, 0, 0)))) (e_T 9 (e_T 6 (e_L 6 (2, e_nof, 266, 3)) (e_L 9 (0, ei_if1 1 14 12, 0, 0))) (e_T 12 (e_L 12 (0, ei_push (0, (-1)) 13, 0, 0)) (e_L 13 (1, e_nof, 1, 0))))) (e_T 21 (e_T 15 (e_T 14 (e_L 14 (0, ei_load 0 2 15, 0, 0)) (e_L 15 (0, ei_getf eft elay 12 3 18, 0, 0))) (e_T 18 (e_L 18 (0, ei_if1 1 24 21, 0, 0)) (e_L 21 (0, ei_push (0, (-2)) 23, 0, 0)))) (e_T 24 (e_T 23 (e_L 23 (1, e_nof, 1, 0)) (e_L 24 (0, ei_load 0 2 25, 0, 0))) (e_T 25 (e_L 25 (2, e_nof, 422, 1)) (e_L 28 (0, ei_if1 0 34 31, 0, 0)))))) (e_T 42 (e_T 35 (e_T 33 (e_T 31 (e_L 31 (0, ei_push (0, (-3)) 33, 0, 0)) (e_L 33 (1, e_nof, 1, 0))) (e_T 34 (e_L 34 (0, ei_load 0 2 35, 0, 0)) (e_L 35 (0, ei_getf eft elay 12 0 38, 0, 0)))) (e_T 40 (e_T 38 (e_L 38 (0, ei_push (0, 8) 40, 0, 0)) (e_L 40 (0, ei_load 1 0 41, 0, 0))) (e_T 41 (e_L 41 (0, ei_bin eF_add 42, 0, 0)) (e_L 42 (0, ei_load 2 0 43, 0, 0))))) (e_T 47 (e_T 44 (e_T 43 (e_L 43 (0, ei_ast elay false 44, 0, 0)) (e_L 44 (0, ei_load 0 2 45, 0, 0))) (e_T 45 (e_L 45 (0, ei_push (0, 9) 47, 0, 0)) (e_L 47 (0, ei_load 1 0 48, 0, 0)))) (e_T 49 (e_T 48 (e_L 48 (0, ei_load 2 0 49, 0, 0)) (e_L 49 (0, ei_push (0, 0) 50, 0, 0))) (e_T 50 (e_L 50 (2, e_nof, 423, 5)) (e_T 53 (e_L 53 (0, ei_push (0, 0) 54, 0, 0)) (e_L 54 (1, e_nof, 1, 0))))))))
set_option maxRecDepth 20000 in
set_option maxHeartbeats 4000000 in
theorem te_434_0_ok : ∀ pc, e_EOq eft cls elay eI n_434 pc (te_434_0 pc) :=
  (e_Tok2
  (e_Tok2
  (e_Tok2
  (e_Tok2
  (e_Tok2
  (e_Lok (ld_iload_n_1 (x_dk dn_434_0_0_ok 0 rfl)))
  (e_Lok (e_st (I := eI) (er_i2l (x_dk dn_434_0_0_ok 1 rfl)) (nx_un (fun _ => rfl)))))
  (e_Tok2
  (e_Lok (ps_lconst_0 (x_dk dn_434_0_0_ok 2 rfl)))
  (e_Lok (e_st (I := eI) (er_ldc2 (ix := 879) (z := 5) (v := 5) (x_dk dn_434_0_0_ok 3 rfl) (in_t13 (List.mem_of_getElem? (i := 183) rfl) rfl) (by decide)) (nx_push (Or.inl rfl))))))
  (e_Tok2
  (e_Tok2
  (e_Lok (lk_12_301 ho_434 (x_dk dn_434_0_0_ok 4 rfl)))
  (e_Lok (e_st (I := eI) (er_ifne (off := 5) (tg := 14) (x_dk dn_434_0_0_ok 5 rfl) (by decide)) nx_if1)))
  (e_Tok2
  (e_Lok (ps_iconst_m1 (x_dk dn_434_0_0_ok 6 rfl)))
  (e_Lok (e_rt (I := eI) (k := 1) ⟨(x_dk dn_434_0_0_ok 7 rfl), rfl⟩)))))
  (e_Tok2
  (e_Tok2
  (e_Tok2
  (e_Lok (ld_aload_n_0 (x_dk dn_434_0_0_ok 8 rfl)))
  (e_Lok (lk_12_265g ho_434 (x_dk dn_434_0_0_ok 9 rfl))))
  (e_Tok2
  (e_Lok (e_st (I := eI) (er_ifne (off := 6) (tg := 24) (x_dk dn_434_0_0_ok 10 rfl) (by decide)) nx_if1))
  (e_Lok (ps_bipush_m2 (x_dk dn_434_0_0_ok 11 rfl)))))
  (e_Tok2
  (e_Tok2
  (e_Lok (e_rt (I := eI) (k := 1) ⟨(x_dk dn_434_0_0_ok 12 rfl), rfl⟩))
  (e_Lok (ld_aload_n_0 (x_dk dn_434_0_0_ok 13 rfl))))
  (e_Tok2
  (e_Lok (lk_12_863 ho_434 (x_dk dn_434_0_0_ok 14 rfl)))
  (e_Lok (e_st (I := eI) (er_ifeq (off := 6) (tg := 34) (x_dk dn_434_0_0_ok 15 rfl) (by decide)) nx_if1))))))
  (e_Tok2
  (e_Tok2
  (e_Tok2
  (e_Tok2
  (e_Lok (ps_bipush_m3 (x_dk dn_434_0_0_ok 16 rfl)))
  (e_Lok (e_rt (I := eI) (k := 1) ⟨(x_dk dn_434_0_0_ok 17 rfl), rfl⟩)))
  (e_Tok2
  (e_Lok (ld_aload_n_0 (x_dk dn_434_0_0_ok 18 rfl)))
  (e_Lok (lk_12_8g ho_434 (x_dk dn_434_0_0_ok 19 rfl)))))
  (e_Tok2
  (e_Tok2
  (e_Lok (ps_bipush_8 (x_dk dn_434_0_0_ok 20 rfl)))
  (e_Lok (ld_iload_n_1 (x_dk dn_434_0_0_ok 21 rfl))))
  (e_Tok2
  (e_Lok (sm_iadd (x_dk dn_434_0_0_ok 22 rfl)))
  (e_Lok (ld_iload_n_2 (x_dk dn_434_0_0_ok 23 rfl))))))
  (e_Tok2
  (e_Tok2
  (e_Tok2
  (e_Lok (sm_iastore (x_dk dn_434_0_0_ok 24 rfl)))
  (e_Lok (ld_aload_n_0 (x_dk dn_434_0_1_ok 0 rfl))))
  (e_Tok2
  (e_Lok (ps_bipush_9 (x_dk dn_434_0_1_ok 1 rfl)))
  (e_Lok (ld_iload_n_1 (x_dk dn_434_0_1_ok 2 rfl)))))
  (e_Tok2
  (e_Tok2
  (e_Lok (ld_iload_n_2 (x_dk dn_434_0_1_ok 3 rfl)))
  (e_Lok (ps_iconst_0 (x_dk dn_434_0_1_ok 4 rfl))))
  (e_Tok2
  (e_Lok (lk_12_866 ho_434 (x_dk dn_434_0_1_ok 5 rfl)))
  (e_Tok2
  (e_Lok (ps_iconst_0 (x_dk dn_434_0_1_ok 6 rfl)))
  (e_Lok (e_rt (I := eI) (k := 1) ⟨(x_dk dn_434_0_1_ok 7 rfl), rfl⟩))))))))
def te_434 : Nat → eE := te_434_0
theorem te_434_ok : ∀ pc, e_EOq eft cls elay eI n_434 pc (te_434 pc) := te_434_0_ok
theorem ho_435 : (xm_y n_435).cls = "RobotCellHouseModel" := rfl
def dn_435_0_0 : List (Nat × Instr × Nat) := [(0, .iload_n 1, 1), (1, .tableswitch 167 0 10 #[59, 66, 72, 79, 97, 124, 130, 136, 142, 151, 158], 59), (60, .aload_n 0, 1), (61, .iload_n 2, 1), (62, .iload_n 3, 1), (63, .invokevirtual 881, 3), (66, .ireturn, 1), (67, .aload_n 0, 1), (68, .iload_n 2, 1), (69, .invokevirtual 884, 3), (72, .ireturn, 1), (73, .aload_n 0, 1), (74, .iload_n 2, 1), (75, .iload_n 3, 1), (76, .invokevirtual 887, 3), (79, .ireturn, 1), (80, .aload_n 0, 1), (81, .iload_n 2, 1), (82, .iload_n 3, 1), (83, .iload 4, 2), (85, .iconst 1, 1), (86, .if_icmp .ne 7, 3), (89, .iconst 1, 1), (90, .goto 4, 3), (93, .iconst 0, 1)]
set_option maxRecDepth 20000 in
theorem dn_435_0_0_ok : dn_435_0_0.all (fun q => decide (decode (xm_b n_435) q.1 = .ok (q.2.1, q.2.2))) = true := xa_g_ok (by decide +kernel)
def dn_435_0_1 : List (Nat × Instr × Nat) := [(94, .invokevirtual 890, 3), (97, .ireturn, 1), (98, .aload_n 0, 1), (99, .iload_n 2, 1), (100, .iload_n 3, 1), (101, .iconst 1, 1), (102, .if_icmp .ne 7, 3), (105, .iconst 1, 1), (106, .goto 4, 3), (109, .iconst 0, 1), (110, .iload 4, 2), (112, .iconst 1, 1), (113, .if_icmp .ne 7, 3), (116, .iconst 1, 1), (117, .goto 4, 3), (120, .iconst 0, 1), (121, .invokevirtual 894, 3), (124, .ireturn, 1), (125, .aload_n 0, 1), (126, .iload_n 2, 1), (127, .invokevirtual 898, 3), (130, .ireturn, 1), (131, .aload_n 0, 1), (132, .iload_n 2, 1), (133, .invokevirtual 901, 3)]
set_option maxRecDepth 20000 in
theorem dn_435_0_1_ok : dn_435_0_1.all (fun q => decide (decode (xm_b n_435) q.1 = .ok (q.2.1, q.2.2))) = true := xa_g_ok (by decide +kernel)
def dn_435_0_2 : List (Nat × Instr × Nat) := [(136, .ireturn, 1), (137, .aload_n 0, 1), (138, .iload_n 2, 1), (139, .invokevirtual 904, 3), (142, .ireturn, 1), (143, .aload_n 0, 1), (144, .iload_n 2, 1), (145, .iload_n 3, 1), (146, .iload 4, 2), (148, .invokevirtual 907, 3), (151, .ireturn, 1), (152, .aload_n 0, 1), (153, .iload_n 2, 1), (154, .iload_n 3, 1), (155, .invokevirtual 910, 3), (158, .ireturn, 1), (159, .aload_n 0, 1), (160, .iload_n 2, 1), (161, .iload_n 3, 1), (162, .iload 4, 2), (164, .invokevirtual 913, 3), (167, .ireturn, 1), (168, .aload_n 0, 1), (169, .iload_n 2, 1), (170, .invokevirtual 916, 3)]
set_option maxRecDepth 20000 in
theorem dn_435_0_2_ok : dn_435_0_2.all (fun q => decide (decode (xm_b n_435) q.1 = .ok (q.2.1, q.2.2))) = true := xa_g_ok (by decide +kernel)
def dn_435_0_3 : List (Nat × Instr × Nat) := [(173, .ireturn, 1)]
set_option maxRecDepth 20000 in
theorem dn_435_0_3_ok : dn_435_0_3.all (fun q => decide (decode (xm_b n_435) q.1 = .ok (q.2.1, q.2.2))) = true := xa_g_ok (by decide +kernel)
def te_435_0 : Nat → eE := (e_T 82 (e_T 68 (e_T 61 (e_T 1 (e_T 0 (e_L 0 (0, ei_load 1 0 1, 0, 0)) (e_L 1 (0, ei_sw [((-2147483648), (-1), 168), (0, 0, 60), (1, 1, 67), (2, 2, 73), (3, 3, 80), (4, 4, 98), (5, 5, 125), (6, 6, 131), (7, 7, 137), (8, 8, 143), (9, 9, 152), (10, 10, 159), (11, 2147483647, 168)], 0, 0))) (e_T 60 (e_L 60 (0, ei_load 0 2 61, 0, 0)) (e_L 61 (0, ei_load 2 0 62, 0, 0)))) (e_T 63 (e_T 62 (e_L 62 (0, ei_load 3 0 63, 0, 0)) (e_L 63 (2, e_nof, 425, 3))) (e_T 66 (e_L 66 (1, e_nof, 1, 0)) (e_T 67 (e_L 67 (0, ei_load 0 2 68, 0, 0)) (e_L 68 (0, ei_load 2 0 69, 0, 0)))))) (e_T 75 (e_T 72 (e_T 69 (e_L 69 (2, e_nof, 426, 2)) (e_L 72 (1, e_nof, 1, 0))) (e_T 73 (e_L 73 (0, ei_load 0 2 74, 0, 0)) (e_T 74 (e_L 74 (0, ei_load 2 0 75, 0, 0)) (e_L 75 (0, ei_load 3 0 76, 0, 0))))) (e_T 79 (e_T 76 (e_L 76 (2, e_nof, 427, 3)) (e_L 79 (1, e_nof, 1, 0))) (e_T 80 (e_L 80 (0, ei_load 0 2 81, 0, 0)) (e_T 81 (e_L 81 (0, ei_load 2 0 82, 0, 0)) (e_L 82 (0, ei_load 3 0 83, 0, 0))))))) (e_T 98 (e_T 89 (e_T 85 (e_T 83 (e_L 83 (0, ei_load 4 0 85, 0, 0)) (e_L 85 (0, ei_push (0, 1) 86, 0, 0))) (e_T 86 (e_L 86 (0, ei_if2 1 93 89, 0, 0)) (e_L 89 (0, ei_push (0, 1) 90, 0, 0)))) (e_T 93 (e_T 90 (e_L 90 (0, ei_goto 94, 0, 0)) (e_L 93 (0, ei_push (0, 0) 94, 0, 0))) (e_T 94 (e_L 94 (2, e_nof, 428, 4)) (e_T 97 (e_L 97 (1, e_nof, 1, 0)) (e_L 98 (0, ei_load 0 2 99, 0, 0)))))) (e_T 105 (e_T 100 (e_T 99 (e_L 99 (0, ei_load 2 0 100, 0, 0)) (e_L 100 (0, ei_load 3 0 101, 0, 0))) (e_T 101 (e_L 101 (0, ei_push (0, 1) 102, 0, 0)) (e_T 102 (e_L 102 (0, ei_if2 1 109 105, 0, 0)) (e_L 105 (0, ei_push (0, 1) 106, 0, 0))))) (e_T 109 (e_T 106 (e_L 106 (0, ei_goto 110, 0, 0)) (e_L 109 (0, ei_push (0, 0) 110, 0, 0))) (e_T 110 (e_L 110 (0, ei_load 4 0 112, 0, 0)) (e_T 112 (e_L 112 (0, ei_push (0, 1) 113, 0, 0)) (e_L 113 (0, ei_if2 1 120 116, 0, 0))))))))
set_option maxRecDepth 20000 in
set_option maxHeartbeats 4000000 in
theorem te_435_0_ok : ∀ pc, e_EOq eft cls elay eI n_435 pc (te_435_0 pc) :=
  (e_Tok2
  (e_Tok2
  (e_Tok2
  (e_Tok2
  (e_Tok2
  (e_Lok (ld_iload_n_1 (x_dk dn_435_0_0_ok 0 rfl)))
  (e_Lok (e_st (I := eI) (er_tsw (dflt := 167) (lo := 0) (hi := 10) (offs := #[59, 66, 72, 79, 97, 124, 130, 136, 142, 151, 158]) (len := 59) (n := 11) (x_dk dn_435_0_0_ok 1 rfl) (by decide) (by decide +kernel)) nx_sw)))
  (e_Tok2
  (e_Lok (ld_aload_n_0 (x_dk dn_435_0_0_ok 2 rfl)))
  (e_Lok (ld_iload_n_2 (x_dk dn_435_0_0_ok 3 rfl)))))
  (e_Tok2
  (e_Tok2
  (e_Lok (ld_iload_n_3 (x_dk dn_435_0_0_ok 4 rfl)))
  (e_Lok (lk_12_881 ho_435 (x_dk dn_435_0_0_ok 5 rfl))))
  (e_Tok2
  (e_Lok (e_rt (I := eI) (k := 1) ⟨(x_dk dn_435_0_0_ok 6 rfl), rfl⟩))
  (e_Tok2
  (e_Lok (ld_aload_n_0 (x_dk dn_435_0_0_ok 7 rfl)))
  (e_Lok (ld_iload_n_2 (x_dk dn_435_0_0_ok 8 rfl)))))))
  (e_Tok2
  (e_Tok2
  (e_Tok2
  (e_Lok (lk_12_884 ho_435 (x_dk dn_435_0_0_ok 9 rfl)))
  (e_Lok (e_rt (I := eI) (k := 1) ⟨(x_dk dn_435_0_0_ok 10 rfl), rfl⟩)))
  (e_Tok2
  (e_Lok (ld_aload_n_0 (x_dk dn_435_0_0_ok 11 rfl)))
  (e_Tok2
  (e_Lok (ld_iload_n_2 (x_dk dn_435_0_0_ok 12 rfl)))
  (e_Lok (ld_iload_n_3 (x_dk dn_435_0_0_ok 13 rfl))))))
  (e_Tok2
  (e_Tok2
  (e_Lok (lk_12_887 ho_435 (x_dk dn_435_0_0_ok 14 rfl)))
  (e_Lok (e_rt (I := eI) (k := 1) ⟨(x_dk dn_435_0_0_ok 15 rfl), rfl⟩)))
  (e_Tok2
  (e_Lok (ld_aload_n_0 (x_dk dn_435_0_0_ok 16 rfl)))
  (e_Tok2
  (e_Lok (ld_iload_n_2 (x_dk dn_435_0_0_ok 17 rfl)))
  (e_Lok (ld_iload_n_3 (x_dk dn_435_0_0_ok 18 rfl))))))))
  (e_Tok2
  (e_Tok2
  (e_Tok2
  (e_Tok2
  (e_Lok (ld_iload_4 (x_dk dn_435_0_0_ok 19 rfl)))
  (e_Lok (ps_iconst_1 (x_dk dn_435_0_0_ok 20 rfl))))
  (e_Tok2
  (e_Lok (e_st (I := eI) (er_icmpne (off := 7) (tg := 93) (x_dk dn_435_0_0_ok 21 rfl) (by decide)) nx_if2))
  (e_Lok (ps_iconst_1 (x_dk dn_435_0_0_ok 22 rfl)))))
  (e_Tok2
  (e_Tok2
  (e_Lok (e_st (I := eI) (er_goto (off := 4) (tg := 94) (x_dk dn_435_0_0_ok 23 rfl) (by decide)) nx_goto))
  (e_Lok (ps_iconst_0 (x_dk dn_435_0_0_ok 24 rfl))))
  (e_Tok2
  (e_Lok (lk_12_890 ho_435 (x_dk dn_435_0_1_ok 0 rfl)))
  (e_Tok2
  (e_Lok (e_rt (I := eI) (k := 1) ⟨(x_dk dn_435_0_1_ok 1 rfl), rfl⟩))
  (e_Lok (ld_aload_n_0 (x_dk dn_435_0_1_ok 2 rfl)))))))
  (e_Tok2
  (e_Tok2
  (e_Tok2
  (e_Lok (ld_iload_n_2 (x_dk dn_435_0_1_ok 3 rfl)))
  (e_Lok (ld_iload_n_3 (x_dk dn_435_0_1_ok 4 rfl))))
  (e_Tok2
  (e_Lok (ps_iconst_1 (x_dk dn_435_0_1_ok 5 rfl)))
  (e_Tok2
  (e_Lok (e_st (I := eI) (er_icmpne (off := 7) (tg := 109) (x_dk dn_435_0_1_ok 6 rfl) (by decide)) nx_if2))
  (e_Lok (ps_iconst_1 (x_dk dn_435_0_1_ok 7 rfl))))))
  (e_Tok2
  (e_Tok2
  (e_Lok (e_st (I := eI) (er_goto (off := 4) (tg := 110) (x_dk dn_435_0_1_ok 8 rfl) (by decide)) nx_goto))
  (e_Lok (ps_iconst_0 (x_dk dn_435_0_1_ok 9 rfl))))
  (e_Tok2
  (e_Lok (ld_iload_4 (x_dk dn_435_0_1_ok 10 rfl)))
  (e_Tok2
  (e_Lok (ps_iconst_1 (x_dk dn_435_0_1_ok 11 rfl)))
  (e_Lok (e_st (I := eI) (er_icmpne (off := 7) (tg := 120) (x_dk dn_435_0_1_ok 12 rfl) (by decide)) nx_if2))))))))
def te_435_38 : Nat → eE := (e_T 144 (e_T 130 (e_T 121 (e_T 117 (e_T 116 (e_L 116 (0, ei_push (0, 1) 117, 0, 0)) (e_L 117 (0, ei_goto 121, 0, 0))) (e_T 120 (e_L 120 (0, ei_push (0, 0) 121, 0, 0)) (e_L 121 (2, e_nof, 429, 4)))) (e_T 125 (e_T 124 (e_L 124 (1, e_nof, 1, 0)) (e_L 125 (0, ei_load 0 2 126, 0, 0))) (e_T 126 (e_L 126 (0, ei_load 2 0 127, 0, 0)) (e_T 127 (e_L 127 (2, e_nof, 430, 2)) (e_L 130 (1, e_nof, 1, 0)))))) (e_T 137 (e_T 132 (e_T 131 (e_L 131 (0, ei_load 0 2 132, 0, 0)) (e_L 132 (0, ei_load 2 0 133, 0, 0))) (e_T 133 (e_L 133 (2, e_nof, 431, 2)) (e_T 136 (e_L 136 (1, e_nof, 1, 0)) (e_L 137 (0, ei_load 0 2 138, 0, 0))))) (e_T 139 (e_T 138 (e_L 138 (0, ei_load 2 0 139, 0, 0)) (e_L 139 (2, e_nof, 432, 2))) (e_T 142 (e_L 142 (1, e_nof, 1, 0)) (e_T 143 (e_L 143 (0, ei_load 0 2 144, 0, 0)) (e_L 144 (0, ei_load 2 0 145, 0, 0))))))) (e_T 158 (e_T 151 (e_T 146 (e_T 145 (e_L 145 (0, ei_load 3 0 146, 0, 0)) (e_L 146 (0, ei_load 4 0 148, 0, 0))) (e_T 148 (e_L 148 (2, e_nof, 433, 4)) (e_L 151 (1, e_nof, 1, 0)))) (e_T 153 (e_T 152 (e_L 152 (0, ei_load 0 2 153, 0, 0)) (e_L 153 (0, ei_load 2 0 154, 0, 0))) (e_T 154 (e_L 154 (0, ei_load 3 0 155, 0, 0)) (e_T 155 (e_L 155 (2, e_nof, 434, 3)) (e_L 158 (1, e_nof, 1, 0)))))) (e_T 164 (e_T 160 (e_T 159 (e_L 159 (0, ei_load 0 2 160, 0, 0)) (e_L 160 (0, ei_load 2 0 161, 0, 0))) (e_T 161 (e_L 161 (0, ei_load 3 0 162, 0, 0)) (e_T 162 (e_L 162 (0, ei_load 4 0 164, 0, 0)) (e_L 164 (2, e_nof, 418, 4))))) (e_T 168 (e_T 167 (e_L 167 (1, e_nof, 1, 0)) (e_L 168 (0, ei_load 0 2 169, 0, 0))) (e_T 169 (e_L 169 (0, ei_load 2 0 170, 0, 0)) (e_T 170 (e_L 170 (2, e_nof, 419, 2)) (e_L 173 (1, e_nof, 1, 0))))))))
set_option maxRecDepth 20000 in
set_option maxHeartbeats 4000000 in
theorem te_435_38_ok : ∀ pc, e_EOq eft cls elay eI n_435 pc (te_435_38 pc) :=
  (e_Tok2
  (e_Tok2
  (e_Tok2
  (e_Tok2
  (e_Tok2
  (e_Lok (ps_iconst_1 (x_dk dn_435_0_1_ok 13 rfl)))
  (e_Lok (e_st (I := eI) (er_goto (off := 4) (tg := 121) (x_dk dn_435_0_1_ok 14 rfl) (by decide)) nx_goto)))
  (e_Tok2
  (e_Lok (ps_iconst_0 (x_dk dn_435_0_1_ok 15 rfl)))
  (e_Lok (lk_12_894 ho_435 (x_dk dn_435_0_1_ok 16 rfl)))))
  (e_Tok2
  (e_Tok2
  (e_Lok (e_rt (I := eI) (k := 1) ⟨(x_dk dn_435_0_1_ok 17 rfl), rfl⟩))
  (e_Lok (ld_aload_n_0 (x_dk dn_435_0_1_ok 18 rfl))))
  (e_Tok2
  (e_Lok (ld_iload_n_2 (x_dk dn_435_0_1_ok 19 rfl)))
  (e_Tok2
  (e_Lok (lk_12_898 ho_435 (x_dk dn_435_0_1_ok 20 rfl)))
  (e_Lok (e_rt (I := eI) (k := 1) ⟨(x_dk dn_435_0_1_ok 21 rfl), rfl⟩))))))
  (e_Tok2
  (e_Tok2
  (e_Tok2
  (e_Lok (ld_aload_n_0 (x_dk dn_435_0_1_ok 22 rfl)))
  (e_Lok (ld_iload_n_2 (x_dk dn_435_0_1_ok 23 rfl))))
  (e_Tok2
  (e_Lok (lk_12_901 ho_435 (x_dk dn_435_0_1_ok 24 rfl)))
  (e_Tok2
  (e_Lok (e_rt (I := eI) (k := 1) ⟨(x_dk dn_435_0_2_ok 0 rfl), rfl⟩))
  (e_Lok (ld_aload_n_0 (x_dk dn_435_0_2_ok 1 rfl))))))
  (e_Tok2
  (e_Tok2
  (e_Lok (ld_iload_n_2 (x_dk dn_435_0_2_ok 2 rfl)))
  (e_Lok (lk_12_904 ho_435 (x_dk dn_435_0_2_ok 3 rfl))))
  (e_Tok2
  (e_Lok (e_rt (I := eI) (k := 1) ⟨(x_dk dn_435_0_2_ok 4 rfl), rfl⟩))
  (e_Tok2
  (e_Lok (ld_aload_n_0 (x_dk dn_435_0_2_ok 5 rfl)))
  (e_Lok (ld_iload_n_2 (x_dk dn_435_0_2_ok 6 rfl))))))))
  (e_Tok2
  (e_Tok2
  (e_Tok2
  (e_Tok2
  (e_Lok (ld_iload_n_3 (x_dk dn_435_0_2_ok 7 rfl)))
  (e_Lok (ld_iload_4 (x_dk dn_435_0_2_ok 8 rfl))))
  (e_Tok2
  (e_Lok (lk_12_907 ho_435 (x_dk dn_435_0_2_ok 9 rfl)))
  (e_Lok (e_rt (I := eI) (k := 1) ⟨(x_dk dn_435_0_2_ok 10 rfl), rfl⟩))))
  (e_Tok2
  (e_Tok2
  (e_Lok (ld_aload_n_0 (x_dk dn_435_0_2_ok 11 rfl)))
  (e_Lok (ld_iload_n_2 (x_dk dn_435_0_2_ok 12 rfl))))
  (e_Tok2
  (e_Lok (ld_iload_n_3 (x_dk dn_435_0_2_ok 13 rfl)))
  (e_Tok2
  (e_Lok (lk_12_910 ho_435 (x_dk dn_435_0_2_ok 14 rfl)))
  (e_Lok (e_rt (I := eI) (k := 1) ⟨(x_dk dn_435_0_2_ok 15 rfl), rfl⟩))))))
  (e_Tok2
  (e_Tok2
  (e_Tok2
  (e_Lok (ld_aload_n_0 (x_dk dn_435_0_2_ok 16 rfl)))
  (e_Lok (ld_iload_n_2 (x_dk dn_435_0_2_ok 17 rfl))))
  (e_Tok2
  (e_Lok (ld_iload_n_3 (x_dk dn_435_0_2_ok 18 rfl)))
  (e_Tok2
  (e_Lok (ld_iload_4 (x_dk dn_435_0_2_ok 19 rfl)))
  (e_Lok (lk_12_913 ho_435 (x_dk dn_435_0_2_ok 20 rfl))))))
  (e_Tok2
  (e_Tok2
  (e_Lok (e_rt (I := eI) (k := 1) ⟨(x_dk dn_435_0_2_ok 21 rfl), rfl⟩))
  (e_Lok (ld_aload_n_0 (x_dk dn_435_0_2_ok 22 rfl))))
  (e_Tok2
  (e_Lok (ld_iload_n_2 (x_dk dn_435_0_2_ok 23 rfl)))
  (e_Tok2
  (e_Lok (lk_12_916 ho_435 (x_dk dn_435_0_2_ok 24 rfl)))
  (e_Lok (e_rt (I := eI) (k := 1) ⟨(x_dk dn_435_0_3_ok 0 rfl), rfl⟩))))))))
def te_435 : Nat → eE := (e_T 113 te_435_0 te_435_38)
theorem te_435_ok : ∀ pc, e_EOq eft cls elay eI n_435 pc (te_435 pc) := (e_Tok2 (te_435_0_ok) (te_435_38_ok))
end
end
-- part 41bl
section
noncomputable section
theorem ho_436 : (xm_y n_436).cls = "RobotCellHouseModel" := rfl
def dn_436_0_0 : List (Nat × Instr × Nat) := [(0, .iload_n 1, 1), (1, .i2l, 1), (2, .lconst 0, 1), (3, .aload_n 0, 1), (4, .getfield 288, 3), (7, .i2l, 1), (8, .invokestatic 301, 3), (11, .ifCond .ne 5, 3), (14, .iconst (-1), 1), (15, .ireturn, 1), (16, .aload_n 0, 1), (17, .getfield 265, 3), (20, .ifCond .ne 6, 3), (23, .bipush (-2), 2), (25, .ireturn, 1), (26, .iload_n 1, 1), (27, .bipush 100, 2), (29, .idiv, 1), (30, .istore_n 2, 1), (31, .iconst 0, 1), (32, .istore_n 3, 1), (33, .iload_n 3, 1), (34, .ldc 7, 2), (36, .if_icmp .ge 41, 3), (39, .aload_n 0, 1)]
set_option maxRecDepth 20000 in
theorem dn_436_0_0_ok : dn_436_0_0.all (fun q => decide (decode (xm_b n_436) q.1 = .ok (q.2.1, q.2.2))) = true := xa_g_ok (by decide +kernel)
def dn_436_0_1 : List (Nat × Instr × Nat) := [(40, .getfield 8, 3), (43, .iload_n 3, 1), (44, .iload_n 2, 1), (45, .ifCond .ne 12, 3), (48, .aload_n 0, 1), (49, .getfield 14, 3), (52, .iload_n 3, 1), (53, .iaload, 1), (54, .goto 16, 3), (57, .aload_n 0, 1), (58, .getfield 18, 3), (61, .ldc 7, 2), (63, .iload_n 2, 1), (64, .iconst 1, 1), (65, .isub, 1), (66, .imul, 1), (67, .iload_n 3, 1), (68, .iadd, 1), (69, .iaload, 1), (70, .iastore, 1), (71, .iinc 3 1, 3), (74, .goto (-41), 3), (77, .aload_n 0, 1), (78, .iconst 1, 1), (79, .putfield 771, 3)]
set_option maxRecDepth 20000 in
theorem dn_436_0_1_ok : dn_436_0_1.all (fun q => decide (decode (xm_b n_436) q.1 = .ok (q.2.1, q.2.2))) = true := xa_g_ok (by decide +kernel)
def dn_436_0_2 : List (Nat × Instr × Nat) := [(82, .bipush 100, 2), (84, .iload_n 2, 1), (85, .imul, 1), (86, .istore_n 3, 1), (87, .iload_n 3, 1), (88, .iload_n 1, 1), (89, .if_icmp .ge 58, 3), (92, .aload_n 0, 1), (93, .iload_n 3, 1), (94, .putfield 854, 3), (97, .aload_n 0, 1), (98, .aload_n 0, 1), (99, .getfield 21, 3), (102, .iconst 4, 1), (103, .iload_n 3, 1), (104, .imul, 1), (105, .iaload, 1), (106, .aload_n 0, 1), (107, .getfield 21, 3), (110, .iconst 4, 1), (111, .iload_n 3, 1), (112, .imul, 1), (113, .iconst 1, 1), (114, .iadd, 1), (115, .iaload, 1)]
set_option maxRecDepth 20000 in
theorem dn_436_0_2_ok : dn_436_0_2.all (fun q => decide (decode (xm_b n_436) q.1 = .ok (q.2.1, q.2.2))) = true := xa_g_ok (by decide +kernel)
def dn_436_0_3 : List (Nat × Instr × Nat) := [(116, .aload_n 0, 1), (117, .getfield 21, 3), (120, .iconst 4, 1), (121, .iload_n 3, 1), (122, .imul, 1), (123, .iconst 2, 1), (124, .iadd, 1), (125, .iaload, 1), (126, .aload_n 0, 1), (127, .getfield 21, 3), (130, .iconst 4, 1), (131, .iload_n 3, 1), (132, .imul, 1), (133, .iconst 3, 1), (134, .iadd, 1), (135, .iaload, 1), (136, .invokevirtual 919, 3), (139, .istore 4, 2), (141, .iinc 3 1, 3), (144, .goto (-57), 3), (147, .aload_n 0, 1), (148, .iconst 0, 1), (149, .putfield 771, 3), (152, .aload_n 0, 1), (153, .iload_n 1, 1)]
set_option maxRecDepth 20000 in
theorem dn_436_0_3_ok : dn_436_0_3.all (fun q => decide (decode (xm_b n_436) q.1 = .ok (q.2.1, q.2.2))) = true := xa_g_ok (by decide +kernel)
def dn_436_1_0 : List (Nat × Instr × Nat) := [(154, .putfield 288, 3), (157, .aload_n 0, 1), (158, .getfield 8, 3), (161, .iconst 0, 1), (162, .iaload, 1), (163, .ireturn, 1)]
set_option maxRecDepth 20000 in
theorem dn_436_1_0_ok : dn_436_1_0.all (fun q => decide (decode (xm_b n_436) q.1 = .ok (q.2.1, q.2.2))) = true := xa_g_ok (by decide +kernel)
def te_436_0 : Nat → eE := (e_T 20 (e_T 7 (e_T 2 (e_T 0 (e_L 0 (0, ei_load 1 0 1, 0, 0)) (e_T 1 (e_L 1 (0, ei_un (fun x => (4, x)) 2, 0, 0)) (e_L 2 (0, ei_push (4, 0) 3, 0, 0)))) (e_T 3 (e_L 3 (0, ei_load 0 2 4, 0, 0)) (e_T 4 (e_L 4 (0, ei_getf eft elay 12 5 7, 0, 0)) (e_L 7 (0, ei_un (fun x => (4, x)) 8, 0, 0))))) (e_T 14 (e_T 8 (e_L 8 (2, e_nof, 266, 3)) (e_T 11 (e_L 11 (0, ei_if1 1 16 14, 0, 0)) (e_L 14 (0, ei_push (0, (-1)) 15, 0, 0)))) (e_T 16 (e_T 15 (e_L 15 (1, e_nof, 1, 0)) (e_L 16 (0, ei_load 0 2 17, 0, 0))) (e_T 17 (e_L 17 (0, ei_getf eft elay 12 3 20, 0, 0)) (e_L 20 (0, ei_if1 1 26 23, 0, 0)))))) (e_T 30 (e_T 26 (e_T 23 (e_L 23 (0, ei_push (0, (-2)) 25, 0, 0)) (e_T 25 (e_L 25 (1, e_nof, 1, 0)) (e_L 26 (0, ei_load 1 0 27, 0, 0)))) (e_T 27 (e_L 27 (0, ei_push (0, 100) 29, 0, 0)) (e_T 29 (e_L 29 (0, ei_bin eF_div 30, 0, 0)) (e_L 30 (0, ei_stor 2 0 31, 0, 0))))) (e_T 33 (e_T 31 (e_L 31 (0, ei_push (0, 0) 32, 0, 0)) (e_T 32 (e_L 32 (0, ei_stor 3 0 33, 0, 0)) (e_L 33 (0, ei_load 3 0 34, 0, 0)))) (e_T 36 (e_T 34 (e_L 34 (0, ei_push (0, 33060) 36, 0, 0)) (e_L 36 (0, ei_if2 3 77 39, 0, 0))) (e_T 39 (e_L 39 (0, ei_load 0 2 40, 0, 0)) (e_L 40 (0, ei_getf eft elay 12 0 43, 0, 0)))))))
set_option maxRecDepth 20000 in
set_option maxHeartbeats 4000000 in
theorem te_436_0_ok : ∀ pc, e_EOq eft cls elay eI n_436 pc (te_436_0 pc) :=
  (e_Tok2
  (e_Tok2
  (e_Tok2
  (e_Tok2
  (e_Lok (ld_iload_n_1 (x_dk dn_436_0_0_ok 0 rfl)))
  (e_Tok2
  (e_Lok (e_st (I := eI) (er_i2l (x_dk dn_436_0_0_ok 1 rfl)) (nx_un (fun _ => rfl))))
  (e_Lok (ps_lconst_0 (x_dk dn_436_0_0_ok 2 rfl)))))
  (e_Tok2
  (e_Lok (ld_aload_n_0 (x_dk dn_436_0_0_ok 3 rfl)))
  (e_Tok2
  (e_Lok (lk_12_288g ho_436 (x_dk dn_436_0_0_ok 4 rfl)))
  (e_Lok (e_st (I := eI) (er_i2l (x_dk dn_436_0_0_ok 5 rfl)) (nx_un (fun _ => rfl)))))))
  (e_Tok2
  (e_Tok2
  (e_Lok (lk_12_301 ho_436 (x_dk dn_436_0_0_ok 6 rfl)))
  (e_Tok2
  (e_Lok (e_st (I := eI) (er_ifne (off := 5) (tg := 16) (x_dk dn_436_0_0_ok 7 rfl) (by decide)) nx_if1))
  (e_Lok (ps_iconst_m1 (x_dk dn_436_0_0_ok 8 rfl)))))
  (e_Tok2
  (e_Tok2
  (e_Lok (e_rt (I := eI) (k := 1) ⟨(x_dk dn_436_0_0_ok 9 rfl), rfl⟩))
  (e_Lok (ld_aload_n_0 (x_dk dn_436_0_0_ok 10 rfl))))
  (e_Tok2
  (e_Lok (lk_12_265g ho_436 (x_dk dn_436_0_0_ok 11 rfl)))
  (e_Lok (e_st (I := eI) (er_ifne (off := 6) (tg := 26) (x_dk dn_436_0_0_ok 12 rfl) (by decide)) nx_if1))))))
  (e_Tok2
  (e_Tok2
  (e_Tok2
  (e_Lok (ps_bipush_m2 (x_dk dn_436_0_0_ok 13 rfl)))
  (e_Tok2
  (e_Lok (e_rt (I := eI) (k := 1) ⟨(x_dk dn_436_0_0_ok 14 rfl), rfl⟩))
  (e_Lok (ld_iload_n_1 (x_dk dn_436_0_0_ok 15 rfl)))))
  (e_Tok2
  (e_Lok (ps_bipush_100 (x_dk dn_436_0_0_ok 16 rfl)))
  (e_Tok2
  (e_Lok (e_st (I := eI) (er_idiv (x_dk dn_436_0_0_ok 17 rfl)) nx_bin))
  (e_Lok (e_st (I := eI) (er_istore_n (i := 2) (x_dk dn_436_0_0_ok 18 rfl) (by decide +kernel)) nx_stor)))))
  (e_Tok2
  (e_Tok2
  (e_Lok (ps_iconst_0 (x_dk dn_436_0_0_ok 19 rfl)))
  (e_Tok2
  (e_Lok (e_st (I := eI) (er_istore_n (i := 3) (x_dk dn_436_0_0_ok 20 rfl) (by decide +kernel)) nx_stor))
  (e_Lok (ld_iload_n_3 (x_dk dn_436_0_0_ok 21 rfl)))))
  (e_Tok2
  (e_Tok2
  (e_Lok (e_st (I := eI) (er_ldc (ix := 7) (z := 33060) (v := 33060) (x_dk dn_436_0_0_ok 22 rfl) (in_t9 (List.mem_of_getElem? (i := 86) rfl) rfl) (by decide)) (nx_push (Or.inl rfl))))
  (e_Lok (e_st (I := eI) (er_icmpge (off := 41) (tg := 77) (x_dk dn_436_0_0_ok 23 rfl) (by decide)) nx_if2)))
  (e_Tok2
  (e_Lok (ld_aload_n_0 (x_dk dn_436_0_0_ok 24 rfl)))
  (e_Lok (lk_12_8g ho_436 (x_dk dn_436_0_1_ok 0 rfl))))))))
def te_436_26 : Nat → eE := (e_T 64 (e_T 52 (e_T 45 (e_T 43 (e_L 43 (0, ei_load 3 0 44, 0, 0)) (e_T 44 (e_L 44 (0, ei_load 2 0 45, 0, 0)) (e_L 45 (0, ei_if1 1 57 48, 0, 0)))) (e_T 48 (e_L 48 (0, ei_load 0 2 49, 0, 0)) (e_T 49 (e_L 49 (0, ei_getf eft elay 12 1 52, 0, 0)) (e_L 52 (0, ei_load 3 0 53, 0, 0))))) (e_T 57 (e_T 53 (e_L 53 (0, ei_ald elay false 54, 0, 0)) (e_T 54 (e_L 54 (0, ei_goto 70, 0, 0)) (e_L 57 (0, ei_load 0 2 58, 0, 0)))) (e_T 61 (e_T 58 (e_L 58 (0, ei_getf eft elay 12 2 61, 0, 0)) (e_L 61 (0, ei_push (0, 33060) 63, 0, 0))) (e_T 63 (e_L 63 (0, ei_load 2 0 64, 0, 0)) (e_L 64 (0, ei_push (0, 1) 65, 0, 0)))))) (e_T 71 (e_T 67 (e_T 65 (e_L 65 (0, ei_bin eF_sub 66, 0, 0)) (e_T 66 (e_L 66 (0, ei_bin eF_mul 67, 0, 0)) (e_L 67 (0, ei_load 3 0 68, 0, 0)))) (e_T 69 (e_T 68 (e_L 68 (0, ei_bin eF_add 69, 0, 0)) (e_L 69 (0, ei_ald elay false 70, 0, 0))) (e_T 70 (e_L 70 (0, ei_ast elay false 71, 0, 0)) (e_L 71 (0, ei_inc 3 1 74, 0, 0))))) (e_T 78 (e_T 74 (e_L 74 (0, ei_goto 33, 0, 0)) (e_T 77 (e_L 77 (0, ei_load 0 2 78, 0, 0)) (e_L 78 (0, ei_push (0, 1) 79, 0, 0)))) (e_T 82 (e_T 79 (e_L 79 (0, ei_putf eft elay 12 6 1 82, 0, 0)) (e_L 82 (0, ei_push (0, 100) 84, 0, 0))) (e_T 84 (e_L 84 (0, ei_load 2 0 85, 0, 0)) (e_L 85 (0, ei_bin eF_mul 86, 0, 0)))))))
set_option maxRecDepth 20000 in
set_option maxHeartbeats 4000000 in
theorem te_436_26_ok : ∀ pc, e_EOq eft cls elay eI n_436 pc (te_436_26 pc) :=
  (e_Tok2
  (e_Tok2
  (e_Tok2
  (e_Tok2
  (e_Lok (ld_iload_n_3 (x_dk dn_436_0_1_ok 1 rfl)))
  (e_Tok2
  (e_Lok (ld_iload_n_2 (x_dk dn_436_0_1_ok 2 rfl)))
  (e_Lok (e_st (I := eI) (er_ifne (off := 12) (tg := 57) (x_dk dn_436_0_1_ok 3 rfl) (by decide)) nx_if1))))
  (e_Tok2
  (e_Lok (ld_aload_n_0 (x_dk dn_436_0_1_ok 4 rfl)))
  (e_Tok2
  (e_Lok (lk_12_14g ho_436 (x_dk dn_436_0_1_ok 5 rfl)))
  (e_Lok (ld_iload_n_3 (x_dk dn_436_0_1_ok 6 rfl))))))
  (e_Tok2
  (e_Tok2
  (e_Lok (sm_iaload (x_dk dn_436_0_1_ok 7 rfl)))
  (e_Tok2
  (e_Lok (e_st (I := eI) (er_goto (off := 16) (tg := 70) (x_dk dn_436_0_1_ok 8 rfl) (by decide)) nx_goto))
  (e_Lok (ld_aload_n_0 (x_dk dn_436_0_1_ok 9 rfl)))))
  (e_Tok2
  (e_Tok2
  (e_Lok (lk_12_18g ho_436 (x_dk dn_436_0_1_ok 10 rfl)))
  (e_Lok (e_st (I := eI) (er_ldc (ix := 7) (z := 33060) (v := 33060) (x_dk dn_436_0_1_ok 11 rfl) (in_t9 (List.mem_of_getElem? (i := 86) rfl) rfl) (by decide)) (nx_push (Or.inl rfl)))))
  (e_Tok2
  (e_Lok (ld_iload_n_2 (x_dk dn_436_0_1_ok 12 rfl)))
  (e_Lok (ps_iconst_1 (x_dk dn_436_0_1_ok 13 rfl)))))))
  (e_Tok2
  (e_Tok2
  (e_Tok2
  (e_Lok (sm_isub (x_dk dn_436_0_1_ok 14 rfl)))
  (e_Tok2
  (e_Lok (sm_imul (x_dk dn_436_0_1_ok 15 rfl)))
  (e_Lok (ld_iload_n_3 (x_dk dn_436_0_1_ok 16 rfl)))))
  (e_Tok2
  (e_Tok2
  (e_Lok (sm_iadd (x_dk dn_436_0_1_ok 17 rfl)))
  (e_Lok (sm_iaload (x_dk dn_436_0_1_ok 18 rfl))))
  (e_Tok2
  (e_Lok (sm_iastore (x_dk dn_436_0_1_ok 19 rfl)))
  (e_Lok (e_st (I := eI) (er_iinc (i := 3) (n := 1) (x_dk dn_436_0_1_ok 20 rfl) (by decide +kernel) (by decide)) nx_inc)))))
  (e_Tok2
  (e_Tok2
  (e_Lok (e_st (I := eI) (er_goto (off := (-41)) (tg := 33) (x_dk dn_436_0_1_ok 21 rfl) (by decide)) nx_goto))
  (e_Tok2
  (e_Lok (ld_aload_n_0 (x_dk dn_436_0_1_ok 22 rfl)))
  (e_Lok (ps_iconst_1 (x_dk dn_436_0_1_ok 23 rfl)))))
  (e_Tok2
  (e_Tok2
  (e_Lok (lk_12_771p ho_436 (x_dk dn_436_0_1_ok 24 rfl)))
  (e_Lok (ps_bipush_100 (x_dk dn_436_0_2_ok 0 rfl))))
  (e_Tok2
  (e_Lok (ld_iload_n_2 (x_dk dn_436_0_2_ok 1 rfl)))
  (e_Lok (sm_imul (x_dk dn_436_0_2_ok 2 rfl))))))))
def te_436_53 : Nat → eE := (e_T 104 (e_T 93 (e_T 88 (e_T 86 (e_L 86 (0, ei_stor 3 0 87, 0, 0)) (e_T 87 (e_L 87 (0, ei_load 3 0 88, 0, 0)) (e_L 88 (0, ei_load 1 0 89, 0, 0)))) (e_T 89 (e_L 89 (0, ei_if2 3 147 92, 0, 0)) (e_T 92 (e_L 92 (0, ei_load 0 2 93, 0, 0)) (e_L 93 (0, ei_load 3 0 94, 0, 0))))) (e_T 98 (e_T 94 (e_L 94 (0, ei_putf eft elay 12 117 0 97, 0, 0)) (e_T 97 (e_L 97 (0, ei_load 0 2 98, 0, 0)) (e_L 98 (0, ei_load 0 2 99, 0, 0)))) (e_T 102 (e_T 99 (e_L 99 (0, ei_getf eft elay 12 4 102, 0, 0)) (e_L 102 (0, ei_push (0, 4) 103, 0, 0))) (e_T 103 (e_L 103 (0, ei_load 3 0 104, 0, 0)) (e_L 104 (0, ei_bin eF_mul 105, 0, 0)))))) (e_T 112 (e_T 107 (e_T 105 (e_L 105 (0, ei_ald elay false 106, 0, 0)) (e_T 106 (e_L 106 (0, ei_load 0 2 107, 0, 0)) (e_L 107 (0, ei_getf eft elay 12 4 110, 0, 0)))) (e_T 110 (e_L 110 (0, ei_push (0, 4) 111, 0, 0)) (e_T 111 (e_L 111 (0, ei_load 3 0 112, 0, 0)) (e_L 112 (0, ei_bin eF_mul 113, 0, 0))))) (e_T 115 (e_T 113 (e_L 113 (0, ei_push (0, 1) 114, 0, 0)) (e_T 114 (e_L 114 (0, ei_bin eF_add 115, 0, 0)) (e_L 115 (0, ei_ald elay false 116, 0, 0)))) (e_T 117 (e_T 116 (e_L 116 (0, ei_load 0 2 117, 0, 0)) (e_L 117 (0, ei_getf eft elay 12 4 120, 0, 0))) (e_T 120 (e_L 120 (0, ei_push (0, 4) 121, 0, 0)) (e_L 121 (0, ei_load 3 0 122, 0, 0)))))))
set_option maxRecDepth 20000 in
set_option maxHeartbeats 4000000 in
theorem te_436_53_ok : ∀ pc, e_EOq eft cls elay eI n_436 pc (te_436_53 pc) :=
  (e_Tok2
  (e_Tok2
  (e_Tok2
  (e_Tok2
  (e_Lok (e_st (I := eI) (er_istore_n (i := 3) (x_dk dn_436_0_2_ok 3 rfl) (by decide +kernel)) nx_stor))
  (e_Tok2
  (e_Lok (ld_iload_n_3 (x_dk dn_436_0_2_ok 4 rfl)))
  (e_Lok (ld_iload_n_1 (x_dk dn_436_0_2_ok 5 rfl)))))
  (e_Tok2
  (e_Lok (e_st (I := eI) (er_icmpge (off := 58) (tg := 147) (x_dk dn_436_0_2_ok 6 rfl) (by decide)) nx_if2))
  (e_Tok2
  (e_Lok (ld_aload_n_0 (x_dk dn_436_0_2_ok 7 rfl)))
  (e_Lok (ld_iload_n_3 (x_dk dn_436_0_2_ok 8 rfl))))))
  (e_Tok2
  (e_Tok2
  (e_Lok (lk_12_854p ho_436 (x_dk dn_436_0_2_ok 9 rfl)))
  (e_Tok2
  (e_Lok (ld_aload_n_0 (x_dk dn_436_0_2_ok 10 rfl)))
  (e_Lok (ld_aload_n_0 (x_dk dn_436_0_2_ok 11 rfl)))))
  (e_Tok2
  (e_Tok2
  (e_Lok (lk_12_21g ho_436 (x_dk dn_436_0_2_ok 12 rfl)))
  (e_Lok (ps_iconst_4 (x_dk dn_436_0_2_ok 13 rfl))))
  (e_Tok2
  (e_Lok (ld_iload_n_3 (x_dk dn_436_0_2_ok 14 rfl)))
  (e_Lok (sm_imul (x_dk dn_436_0_2_ok 15 rfl)))))))
  (e_Tok2
  (e_Tok2
  (e_Tok2
  (e_Lok (sm_iaload (x_dk dn_436_0_2_ok 16 rfl)))
  (e_Tok2
  (e_Lok (ld_aload_n_0 (x_dk dn_436_0_2_ok 17 rfl)))
  (e_Lok (lk_12_21g ho_436 (x_dk dn_436_0_2_ok 18 rfl)))))
  (e_Tok2
  (e_Lok (ps_iconst_4 (x_dk dn_436_0_2_ok 19 rfl)))
  (e_Tok2
  (e_Lok (ld_iload_n_3 (x_dk dn_436_0_2_ok 20 rfl)))
  (e_Lok (sm_imul (x_dk dn_436_0_2_ok 21 rfl))))))
  (e_Tok2
  (e_Tok2
  (e_Lok (ps_iconst_1 (x_dk dn_436_0_2_ok 22 rfl)))
  (e_Tok2
  (e_Lok (sm_iadd (x_dk dn_436_0_2_ok 23 rfl)))
  (e_Lok (sm_iaload (x_dk dn_436_0_2_ok 24 rfl)))))
  (e_Tok2
  (e_Tok2
  (e_Lok (ld_aload_n_0 (x_dk dn_436_0_3_ok 0 rfl)))
  (e_Lok (lk_12_21g ho_436 (x_dk dn_436_0_3_ok 1 rfl))))
  (e_Tok2
  (e_Lok (ps_iconst_4 (x_dk dn_436_0_3_ok 2 rfl)))
  (e_Lok (ld_iload_n_3 (x_dk dn_436_0_3_ok 3 rfl))))))))
def te_436_79 : Nat → eE := (e_T 136 (e_T 127 (e_T 124 (e_T 122 (e_L 122 (0, ei_bin eF_mul 123, 0, 0)) (e_T 123 (e_L 123 (0, ei_push (0, 2) 124, 0, 0)) (e_L 124 (0, ei_bin eF_add 125, 0, 0)))) (e_T 125 (e_L 125 (0, ei_ald elay false 126, 0, 0)) (e_T 126 (e_L 126 (0, ei_load 0 2 127, 0, 0)) (e_L 127 (0, ei_getf eft elay 12 4 130, 0, 0))))) (e_T 132 (e_T 130 (e_L 130 (0, ei_push (0, 4) 131, 0, 0)) (e_T 131 (e_L 131 (0, ei_load 3 0 132, 0, 0)) (e_L 132 (0, ei_bin eF_mul 133, 0, 0)))) (e_T 134 (e_T 133 (e_L 133 (0, ei_push (0, 3) 134, 0, 0)) (e_L 134 (0, ei_bin eF_add 135, 0, 0))) (e_T 135 (e_L 135 (0, ei_ald elay false 136, 0, 0)) (e_L 136 (2, e_nof, 435, 5)))))) (e_T 152 (e_T 144 (e_T 139 (e_L 139 (0, ei_stor 4 0 141, 0, 0)) (e_T 141 (e_L 141 (0, ei_inc 3 1 144, 0, 0)) (e_L 144 (0, ei_goto 87, 0, 0)))) (e_T 148 (e_T 147 (e_L 147 (0, ei_load 0 2 148, 0, 0)) (e_L 148 (0, ei_push (0, 0) 149, 0, 0))) (e_T 149 (e_L 149 (0, ei_putf eft elay 12 6 1 152, 0, 0)) (e_L 152 (0, ei_load 0 2 153, 0, 0))))) (e_T 157 (e_T 153 (e_L 153 (0, ei_load 1 0 154, 0, 0)) (e_T 154 (e_L 154 (0, ei_putf eft elay 12 5 0 157, 0, 0)) (e_L 157 (0, ei_load 0 2 158, 0, 0)))) (e_T 161 (e_T 158 (e_L 158 (0, ei_getf eft elay 12 0 161, 0, 0)) (e_L 161 (0, ei_push (0, 0) 162, 0, 0))) (e_T 162 (e_L 162 (0, ei_ald elay false 163, 0, 0)) (e_L 163 (1, e_nof, 1, 0)))))))
set_option maxRecDepth 20000 in
set_option maxHeartbeats 4000000 in
theorem te_436_79_ok : ∀ pc, e_EOq eft cls elay eI n_436 pc (te_436_79 pc) :=
  (e_Tok2
  (e_Tok2
  (e_Tok2
  (e_Tok2
  (e_Lok (sm_imul (x_dk dn_436_0_3_ok 4 rfl)))
  (e_Tok2
  (e_Lok (ps_iconst_2 (x_dk dn_436_0_3_ok 5 rfl)))
  (e_Lok (sm_iadd (x_dk dn_436_0_3_ok 6 rfl)))))
  (e_Tok2
  (e_Lok (sm_iaload (x_dk dn_436_0_3_ok 7 rfl)))
  (e_Tok2
  (e_Lok (ld_aload_n_0 (x_dk dn_436_0_3_ok 8 rfl)))
  (e_Lok (lk_12_21g ho_436 (x_dk dn_436_0_3_ok 9 rfl))))))
  (e_Tok2
  (e_Tok2
  (e_Lok (ps_iconst_4 (x_dk dn_436_0_3_ok 10 rfl)))
  (e_Tok2
  (e_Lok (ld_iload_n_3 (x_dk dn_436_0_3_ok 11 rfl)))
  (e_Lok (sm_imul (x_dk dn_436_0_3_ok 12 rfl)))))
  (e_Tok2
  (e_Tok2
  (e_Lok (ps_iconst_3 (x_dk dn_436_0_3_ok 13 rfl)))
  (e_Lok (sm_iadd (x_dk dn_436_0_3_ok 14 rfl))))
  (e_Tok2
  (e_Lok (sm_iaload (x_dk dn_436_0_3_ok 15 rfl)))
  (e_Lok (lk_12_919 ho_436 (x_dk dn_436_0_3_ok 16 rfl)))))))
  (e_Tok2
  (e_Tok2
  (e_Tok2
  (e_Lok (e_st (I := eI) (er_istore (i := 4) (x_dk dn_436_0_3_ok 17 rfl) (by decide +kernel)) nx_stor))
  (e_Tok2
  (e_Lok (e_st (I := eI) (er_iinc (i := 3) (n := 1) (x_dk dn_436_0_3_ok 18 rfl) (by decide +kernel) (by decide)) nx_inc))
  (e_Lok (e_st (I := eI) (er_goto (off := (-57)) (tg := 87) (x_dk dn_436_0_3_ok 19 rfl) (by decide)) nx_goto))))
  (e_Tok2
  (e_Tok2
  (e_Lok (ld_aload_n_0 (x_dk dn_436_0_3_ok 20 rfl)))
  (e_Lok (ps_iconst_0 (x_dk dn_436_0_3_ok 21 rfl))))
  (e_Tok2
  (e_Lok (lk_12_771p ho_436 (x_dk dn_436_0_3_ok 22 rfl)))
  (e_Lok (ld_aload_n_0 (x_dk dn_436_0_3_ok 23 rfl))))))
  (e_Tok2
  (e_Tok2
  (e_Lok (ld_iload_n_1 (x_dk dn_436_0_3_ok 24 rfl)))
  (e_Tok2
  (e_Lok (lk_12_288p ho_436 (x_dk dn_436_1_0_ok 0 rfl)))
  (e_Lok (ld_aload_n_0 (x_dk dn_436_1_0_ok 1 rfl)))))
  (e_Tok2
  (e_Tok2
  (e_Lok (lk_12_8g ho_436 (x_dk dn_436_1_0_ok 2 rfl)))
  (e_Lok (ps_iconst_0 (x_dk dn_436_1_0_ok 3 rfl))))
  (e_Tok2
  (e_Lok (sm_iaload (x_dk dn_436_1_0_ok 4 rfl)))
  (e_Lok (e_rt (I := eI) (k := 1) ⟨(x_dk dn_436_1_0_ok 5 rfl), rfl⟩)))))))
def te_436 : Nat → eE := (e_T 85 (e_T 40 te_436_0 te_436_26) (e_T 121 te_436_53 te_436_79))
theorem te_436_ok : ∀ pc, e_EOq eft cls elay eI n_436 pc (te_436 pc) := (e_Tok2 ((e_Tok2 (te_436_0_ok) (te_436_26_ok))) ((e_Tok2 (te_436_53_ok) (te_436_79_ok))))
theorem ho_437 : (xm_y n_437).cls = "RobotCellHouseModel" := rfl
def dn_437_0_0 : List (Nat × Instr × Nat) := [(0, .aload_n 0, 1), (1, .getfield 8, 3), (4, .iconst 0, 1), (5, .iaload, 1), (6, .ireturn, 1)]
set_option maxRecDepth 20000 in
theorem dn_437_0_0_ok : dn_437_0_0.all (fun q => decide (decode (xm_b n_437) q.1 = .ok (q.2.1, q.2.2))) = true := xa_g_ok (by decide +kernel)
def te_437_0 : Nat → eE := (e_T 1 (e_T 0 (e_L 0 (0, ei_load 0 2 1, 0, 0)) (e_L 1 (0, ei_getf eft elay 12 0 4, 0, 0))) (e_T 4 (e_L 4 (0, ei_push (0, 0) 5, 0, 0)) (e_T 5 (e_L 5 (0, ei_ald elay false 6, 0, 0)) (e_L 6 (1, e_nof, 1, 0)))))
set_option maxRecDepth 20000 in
set_option maxHeartbeats 4000000 in
theorem te_437_0_ok : ∀ pc, e_EOq eft cls elay eI n_437 pc (te_437_0 pc) :=
  (e_Tok2
  (e_Tok2
  (e_Lok (ld_aload_n_0 (x_dk dn_437_0_0_ok 0 rfl)))
  (e_Lok (lk_12_8g ho_437 (x_dk dn_437_0_0_ok 1 rfl))))
  (e_Tok2
  (e_Lok (ps_iconst_0 (x_dk dn_437_0_0_ok 2 rfl)))
  (e_Tok2
  (e_Lok (sm_iaload (x_dk dn_437_0_0_ok 3 rfl)))
  (e_Lok (e_rt (I := eI) (k := 1) ⟨(x_dk dn_437_0_0_ok 4 rfl), rfl⟩)))))
def te_437 : Nat → eE := te_437_0
theorem te_437_ok : ∀ pc, e_EOq eft cls elay eI n_437 pc (te_437 pc) := te_437_0_ok
theorem ho_438 : (xm_y n_438).cls = "RobotCellHouseModel" := rfl
def dn_438_0_0 : List (Nat × Instr × Nat) := [(0, .aload_n 0, 1), (1, .iload_n 1, 1), (2, .invokevirtual 305, 3), (5, .ifCond .eq 15, 3), (8, .iload_n 2, 1), (9, .i2l, 1), (10, .lconst 0, 1), (11, .ldc2_w 367, 3), (14, .invokestatic 301, 3), (17, .ifCond .ne 5, 3), (20, .iconst (-1), 1), (21, .ireturn, 1), (22, .iload_n 1, 1), (23, .invokestatic 294, 3), (26, .istore_n 3, 1), (27, .iload_n 2, 1), (28, .tableswitch 103 0 6 #[44, 53, 60, 69, 78, 85, 94], 44), (72, .aload_n 0, 1), (73, .getfield 8, 3), (76, .iload_n 3, 1), (77, .iconst 0, 1), (78, .iadd, 1), (79, .iaload, 1), (80, .ireturn, 1), (81, .aload_n 0, 1)]
set_option maxRecDepth 20000 in
theorem dn_438_0_0_ok : dn_438_0_0.all (fun q => decide (decode (xm_b n_438) q.1 = .ok (q.2.1, q.2.2))) = true := xa_g_ok (by decide +kernel)
def dn_438_0_1 : List (Nat × Instr × Nat) := [(82, .getfield 43, 3), (85, .iload_n 1, 1), (86, .iaload, 1), (87, .ireturn, 1), (88, .aload_n 0, 1), (89, .getfield 8, 3), (92, .iload_n 3, 1), (93, .iconst 1, 1), (94, .iadd, 1), (95, .iaload, 1), (96, .ireturn, 1), (97, .aload_n 0, 1), (98, .getfield 8, 3), (101, .iload_n 3, 1), (102, .iconst 2, 1), (103, .iadd, 1), (104, .iaload, 1), (105, .ireturn, 1), (106, .aload_n 0, 1), (107, .getfield 201, 3), (110, .iload_n 1, 1), (111, .iaload, 1), (112, .ireturn, 1), (113, .aload_n 0, 1), (114, .getfield 8, 3)]
set_option maxRecDepth 20000 in
theorem dn_438_0_1_ok : dn_438_0_1.all (fun q => decide (decode (xm_b n_438) q.1 = .ok (q.2.1, q.2.2))) = true := xa_g_ok (by decide +kernel)
def dn_438_0_2 : List (Nat × Instr × Nat) := [(117, .iload_n 3, 1), (118, .iconst 3, 1), (119, .iadd, 1), (120, .iaload, 1), (121, .ireturn, 1), (122, .aload_n 0, 1), (123, .getfield 8, 3), (126, .iload_n 3, 1), (127, .iconst 4, 1), (128, .iadd, 1), (129, .iaload, 1), (130, .ireturn, 1), (131, .aload_n 0, 1), (132, .getfield 8, 3), (135, .iload_n 3, 1), (136, .bipush 6, 2), (138, .iadd, 1), (139, .iaload, 1), (140, .ireturn, 1)]
set_option maxRecDepth 20000 in
theorem dn_438_0_2_ok : dn_438_0_2.all (fun q => decide (decode (xm_b n_438) q.1 = .ok (q.2.1, q.2.2))) = true := xa_g_ok (by decide +kernel)
def te_438_0 : Nat → eE := (e_T 28 (e_T 11 (e_T 5 (e_T 1 (e_T 0 (e_L 0 (0, ei_load 0 2 1, 0, 0)) (e_L 1 (0, ei_load 1 0 2, 0, 0))) (e_T 2 (e_L 2 (2, e_nof, 270, 2)) (e_L 5 (0, ei_if1 0 20 8, 0, 0)))) (e_T 9 (e_T 8 (e_L 8 (0, ei_load 2 0 9, 0, 0)) (e_L 9 (0, ei_un (fun x => (4, x)) 10, 0, 0))) (e_T 10 (e_L 10 (0, ei_push (4, 0) 11, 0, 0)) (e_L 11 (0, ei_push (4, 7) 14, 0, 0))))) (e_T 21 (e_T 17 (e_T 14 (e_L 14 (2, e_nof, 266, 3)) (e_L 17 (0, ei_if1 1 22 20, 0, 0))) (e_T 20 (e_L 20 (0, ei_push (0, (-1)) 21, 0, 0)) (e_L 21 (1, e_nof, 1, 0)))) (e_T 23 (e_T 22 (e_L 22 (0, ei_load 1 0 23, 0, 0)) (e_L 23 (2, e_nof, 268, 1))) (e_T 26 (e_L 26 (0, ei_stor 3 0 27, 0, 0)) (e_T 27 (e_L 27 (0, ei_load 2 0 28, 0, 0)) (e_L 28 (0, ei_sw [((-2147483648), (-1), 131), (0, 0, 72), (1, 1, 81), (2, 2, 88), (3, 3, 97), (4, 4, 106), (5, 5, 113), (6, 6, 122), (7, 2147483647, 131)], 0, 0))))))) (e_T 81 (e_T 77 (e_T 73 (e_T 72 (e_L 72 (0, ei_load 0 2 73, 0, 0)) (e_L 73 (0, ei_getf eft elay 12 0 76, 0, 0))) (e_T 76 (e_L 76 (0, ei_load 3 0 77, 0, 0)) (e_L 77 (0, ei_push (0, 0) 78, 0, 0)))) (e_T 79 (e_T 78 (e_L 78 (0, ei_bin eF_add 79, 0, 0)) (e_L 79 (0, ei_ald elay false 80, 0, 0))) (e_T 80 (e_L 80 (1, e_nof, 1, 0)) (e_L 81 (0, ei_load 0 2 82, 0, 0))))) (e_T 87 (e_T 85 (e_T 82 (e_L 82 (0, ei_getf eft elay 12 15 85, 0, 0)) (e_L 85 (0, ei_load 1 0 86, 0, 0))) (e_T 86 (e_L 86 (0, ei_ald elay false 87, 0, 0)) (e_L 87 (1, e_nof, 1, 0)))) (e_T 89 (e_T 88 (e_L 88 (0, ei_load 0 2 89, 0, 0)) (e_L 89 (0, ei_getf eft elay 12 0 92, 0, 0))) (e_T 92 (e_L 92 (0, ei_load 3 0 93, 0, 0)) (e_T 93 (e_L 93 (0, ei_push (0, 1) 94, 0, 0)) (e_L 94 (0, ei_bin eF_add 95, 0, 0))))))))
set_option maxRecDepth 20000 in
set_option maxHeartbeats 4000000 in
theorem te_438_0_ok : ∀ pc, e_EOq eft cls elay eI n_438 pc (te_438_0 pc) :=
  (e_Tok2
  (e_Tok2
  (e_Tok2
  (e_Tok2
  (e_Tok2
  (e_Lok (ld_aload_n_0 (x_dk dn_438_0_0_ok 0 rfl)))
  (e_Lok (ld_iload_n_1 (x_dk dn_438_0_0_ok 1 rfl))))
  (e_Tok2
  (e_Lok (lk_12_305 ho_438 (x_dk dn_438_0_0_ok 2 rfl)))
  (e_Lok (e_st (I := eI) (er_ifeq (off := 15) (tg := 20) (x_dk dn_438_0_0_ok 3 rfl) (by decide)) nx_if1))))
  (e_Tok2
  (e_Tok2
  (e_Lok (ld_iload_n_2 (x_dk dn_438_0_0_ok 4 rfl)))
  (e_Lok (e_st (I := eI) (er_i2l (x_dk dn_438_0_0_ok 5 rfl)) (nx_un (fun _ => rfl)))))
  (e_Tok2
  (e_Lok (ps_lconst_0 (x_dk dn_438_0_0_ok 6 rfl)))
  (e_Lok (e_st (I := eI) (er_ldc2 (ix := 367) (z := 7) (v := 7) (x_dk dn_438_0_0_ok 7 rfl) (in_t11 (List.mem_of_getElem? (i := 120) rfl) rfl) (by decide)) (nx_push (Or.inl rfl)))))))
  (e_Tok2
  (e_Tok2
  (e_Tok2
  (e_Lok (lk_12_301 ho_438 (x_dk dn_438_0_0_ok 8 rfl)))
  (e_Lok (e_st (I := eI) (er_ifne (off := 5) (tg := 22) (x_dk dn_438_0_0_ok 9 rfl) (by decide)) nx_if1)))
  (e_Tok2
  (e_Lok (ps_iconst_m1 (x_dk dn_438_0_0_ok 10 rfl)))
  (e_Lok (e_rt (I := eI) (k := 1) ⟨(x_dk dn_438_0_0_ok 11 rfl), rfl⟩))))
  (e_Tok2
  (e_Tok2
  (e_Lok (ld_iload_n_1 (x_dk dn_438_0_0_ok 12 rfl)))
  (e_Lok (lk_12_294 ho_438 (x_dk dn_438_0_0_ok 13 rfl))))
  (e_Tok2
  (e_Lok (e_st (I := eI) (er_istore_n (i := 3) (x_dk dn_438_0_0_ok 14 rfl) (by decide +kernel)) nx_stor))
  (e_Tok2
  (e_Lok (ld_iload_n_2 (x_dk dn_438_0_0_ok 15 rfl)))
  (e_Lok (e_st (I := eI) (er_tsw (dflt := 103) (lo := 0) (hi := 6) (offs := #[44, 53, 60, 69, 78, 85, 94]) (len := 44) (n := 7) (x_dk dn_438_0_0_ok 16 rfl) (by decide) (by decide +kernel)) nx_sw)))))))
  (e_Tok2
  (e_Tok2
  (e_Tok2
  (e_Tok2
  (e_Lok (ld_aload_n_0 (x_dk dn_438_0_0_ok 17 rfl)))
  (e_Lok (lk_12_8g ho_438 (x_dk dn_438_0_0_ok 18 rfl))))
  (e_Tok2
  (e_Lok (ld_iload_n_3 (x_dk dn_438_0_0_ok 19 rfl)))
  (e_Lok (ps_iconst_0 (x_dk dn_438_0_0_ok 20 rfl)))))
  (e_Tok2
  (e_Tok2
  (e_Lok (sm_iadd (x_dk dn_438_0_0_ok 21 rfl)))
  (e_Lok (sm_iaload (x_dk dn_438_0_0_ok 22 rfl))))
  (e_Tok2
  (e_Lok (e_rt (I := eI) (k := 1) ⟨(x_dk dn_438_0_0_ok 23 rfl), rfl⟩))
  (e_Lok (ld_aload_n_0 (x_dk dn_438_0_0_ok 24 rfl))))))
  (e_Tok2
  (e_Tok2
  (e_Tok2
  (e_Lok (lk_12_43g ho_438 (x_dk dn_438_0_1_ok 0 rfl)))
  (e_Lok (ld_iload_n_1 (x_dk dn_438_0_1_ok 1 rfl))))
  (e_Tok2
  (e_Lok (sm_iaload (x_dk dn_438_0_1_ok 2 rfl)))
  (e_Lok (e_rt (I := eI) (k := 1) ⟨(x_dk dn_438_0_1_ok 3 rfl), rfl⟩))))
  (e_Tok2
  (e_Tok2
  (e_Lok (ld_aload_n_0 (x_dk dn_438_0_1_ok 4 rfl)))
  (e_Lok (lk_12_8g ho_438 (x_dk dn_438_0_1_ok 5 rfl))))
  (e_Tok2
  (e_Lok (ld_iload_n_3 (x_dk dn_438_0_1_ok 6 rfl)))
  (e_Tok2
  (e_Lok (ps_iconst_1 (x_dk dn_438_0_1_ok 7 rfl)))
  (e_Lok (sm_iadd (x_dk dn_438_0_1_ok 8 rfl)))))))))
def te_438_34 : Nat → eE := (e_T 117 (e_T 104 (e_T 98 (e_T 96 (e_T 95 (e_L 95 (0, ei_ald elay false 96, 0, 0)) (e_L 96 (1, e_nof, 1, 0))) (e_T 97 (e_L 97 (0, ei_load 0 2 98, 0, 0)) (e_L 98 (0, ei_getf eft elay 12 0 101, 0, 0)))) (e_T 102 (e_T 101 (e_L 101 (0, ei_load 3 0 102, 0, 0)) (e_L 102 (0, ei_push (0, 2) 103, 0, 0))) (e_T 103 (e_L 103 (0, ei_bin eF_add 104, 0, 0)) (e_L 104 (0, ei_ald elay false 105, 0, 0))))) (e_T 110 (e_T 106 (e_T 105 (e_L 105 (1, e_nof, 1, 0)) (e_L 106 (0, ei_load 0 2 107, 0, 0))) (e_T 107 (e_L 107 (0, ei_getf eft elay 12 75 110, 0, 0)) (e_L 110 (0, ei_load 1 0 111, 0, 0)))) (e_T 112 (e_T 111 (e_L 111 (0, ei_ald elay false 112, 0, 0)) (e_L 112 (1, e_nof, 1, 0))) (e_T 113 (e_L 113 (0, ei_load 0 2 114, 0, 0)) (e_T 114 (e_L 114 (0, ei_getf eft elay 12 0 117, 0, 0)) (e_L 117 (0, ei_load 3 0 118, 0, 0))))))) (e_T 128 (e_T 121 (e_T 119 (e_T 118 (e_L 118 (0, ei_push (0, 3) 119, 0, 0)) (e_L 119 (0, ei_bin eF_add 120, 0, 0))) (e_T 120 (e_L 120 (0, ei_ald elay false 121, 0, 0)) (e_L 121 (1, e_nof, 1, 0)))) (e_T 123 (e_T 122 (e_L 122 (0, ei_load 0 2 123, 0, 0)) (e_L 123 (0, ei_getf eft elay 12 0 126, 0, 0))) (e_T 126 (e_L 126 (0, ei_load 3 0 127, 0, 0)) (e_T 127 (e_L 127 (0, ei_push (0, 4) 128, 0, 0)) (e_L 128 (0, ei_bin eF_add 129, 0, 0)))))) (e_T 132 (e_T 130 (e_T 129 (e_L 129 (0, ei_ald elay false 130, 0, 0)) (e_L 130 (1, e_nof, 1, 0))) (e_T 131 (e_L 131 (0, ei_load 0 2 132, 0, 0)) (e_L 132 (0, ei_getf eft elay 12 0 135, 0, 0)))) (e_T 136 (e_T 135 (e_L 135 (0, ei_load 3 0 136, 0, 0)) (e_L 136 (0, ei_push (0, 6) 138, 0, 0))) (e_T 138 (e_L 138 (0, ei_bin eF_add 139, 0, 0)) (e_T 139 (e_L 139 (0, ei_ald elay false 140, 0, 0)) (e_L 140 (1, e_nof, 1, 0))))))))
set_option maxRecDepth 20000 in
set_option maxHeartbeats 4000000 in
theorem te_438_34_ok : ∀ pc, e_EOq eft cls elay eI n_438 pc (te_438_34 pc) :=
  (e_Tok2
  (e_Tok2
  (e_Tok2
  (e_Tok2
  (e_Tok2
  (e_Lok (sm_iaload (x_dk dn_438_0_1_ok 9 rfl)))
  (e_Lok (e_rt (I := eI) (k := 1) ⟨(x_dk dn_438_0_1_ok 10 rfl), rfl⟩)))
  (e_Tok2
  (e_Lok (ld_aload_n_0 (x_dk dn_438_0_1_ok 11 rfl)))
  (e_Lok (lk_12_8g ho_438 (x_dk dn_438_0_1_ok 12 rfl)))))
  (e_Tok2
  (e_Tok2
  (e_Lok (ld_iload_n_3 (x_dk dn_438_0_1_ok 13 rfl)))
  (e_Lok (ps_iconst_2 (x_dk dn_438_0_1_ok 14 rfl))))
  (e_Tok2
  (e_Lok (sm_iadd (x_dk dn_438_0_1_ok 15 rfl)))
  (e_Lok (sm_iaload (x_dk dn_438_0_1_ok 16 rfl))))))
  (e_Tok2
  (e_Tok2
  (e_Tok2
  (e_Lok (e_rt (I := eI) (k := 1) ⟨(x_dk dn_438_0_1_ok 17 rfl), rfl⟩))
  (e_Lok (ld_aload_n_0 (x_dk dn_438_0_1_ok 18 rfl))))
  (e_Tok2
  (e_Lok (lk_12_201g ho_438 (x_dk dn_438_0_1_ok 19 rfl)))
  (e_Lok (ld_iload_n_1 (x_dk dn_438_0_1_ok 20 rfl)))))
  (e_Tok2
  (e_Tok2
  (e_Lok (sm_iaload (x_dk dn_438_0_1_ok 21 rfl)))
  (e_Lok (e_rt (I := eI) (k := 1) ⟨(x_dk dn_438_0_1_ok 22 rfl), rfl⟩)))
  (e_Tok2
  (e_Lok (ld_aload_n_0 (x_dk dn_438_0_1_ok 23 rfl)))
  (e_Tok2
  (e_Lok (lk_12_8g ho_438 (x_dk dn_438_0_1_ok 24 rfl)))
  (e_Lok (ld_iload_n_3 (x_dk dn_438_0_2_ok 0 rfl))))))))
  (e_Tok2
  (e_Tok2
  (e_Tok2
  (e_Tok2
  (e_Lok (ps_iconst_3 (x_dk dn_438_0_2_ok 1 rfl)))
  (e_Lok (sm_iadd (x_dk dn_438_0_2_ok 2 rfl))))
  (e_Tok2
  (e_Lok (sm_iaload (x_dk dn_438_0_2_ok 3 rfl)))
  (e_Lok (e_rt (I := eI) (k := 1) ⟨(x_dk dn_438_0_2_ok 4 rfl), rfl⟩))))
  (e_Tok2
  (e_Tok2
  (e_Lok (ld_aload_n_0 (x_dk dn_438_0_2_ok 5 rfl)))
  (e_Lok (lk_12_8g ho_438 (x_dk dn_438_0_2_ok 6 rfl))))
  (e_Tok2
  (e_Lok (ld_iload_n_3 (x_dk dn_438_0_2_ok 7 rfl)))
  (e_Tok2
  (e_Lok (ps_iconst_4 (x_dk dn_438_0_2_ok 8 rfl)))
  (e_Lok (sm_iadd (x_dk dn_438_0_2_ok 9 rfl)))))))
  (e_Tok2
  (e_Tok2
  (e_Tok2
  (e_Lok (sm_iaload (x_dk dn_438_0_2_ok 10 rfl)))
  (e_Lok (e_rt (I := eI) (k := 1) ⟨(x_dk dn_438_0_2_ok 11 rfl), rfl⟩)))
  (e_Tok2
  (e_Lok (ld_aload_n_0 (x_dk dn_438_0_2_ok 12 rfl)))
  (e_Lok (lk_12_8g ho_438 (x_dk dn_438_0_2_ok 13 rfl)))))
  (e_Tok2
  (e_Tok2
  (e_Lok (ld_iload_n_3 (x_dk dn_438_0_2_ok 14 rfl)))
  (e_Lok (ps_bipush_6 (x_dk dn_438_0_2_ok 15 rfl))))
  (e_Tok2
  (e_Lok (sm_iadd (x_dk dn_438_0_2_ok 16 rfl)))
  (e_Tok2
  (e_Lok (sm_iaload (x_dk dn_438_0_2_ok 17 rfl)))
  (e_Lok (e_rt (I := eI) (k := 1) ⟨(x_dk dn_438_0_2_ok 18 rfl), rfl⟩))))))))
def te_438 : Nat → eE := (e_T 94 te_438_0 te_438_34)
theorem te_438_ok : ∀ pc, e_EOq eft cls elay eI n_438 pc (te_438 pc) := (e_Tok2 (te_438_0_ok) (te_438_34_ok))
theorem ho_439 : (xm_y n_439).cls = "RobotCellHouseModel" := rfl
def dn_439_0_0 : List (Nat × Instr × Nat) := [(0, .aload_n 0, 1), (1, .iload_n 1, 1), (2, .iload_n 2, 1), (3, .invokevirtual 333, 3), (6, .ifCond .eq 20, 3), (9, .aload_n 0, 1), (10, .getfield 8, 3), (13, .iload_n 1, 1), (14, .invokestatic 294, 3), (17, .bipush 16, 2), (19, .iadd, 1), (20, .iload_n 2, 1), (21, .iadd, 1), (22, .iaload, 1), (23, .goto 4, 3), (26, .iconst (-1), 1), (27, .ireturn, 1)]
set_option maxRecDepth 20000 in
theorem dn_439_0_0_ok : dn_439_0_0.all (fun q => decide (decode (xm_b n_439) q.1 = .ok (q.2.1, q.2.2))) = true := xa_g_ok (by decide +kernel)
def te_439_0 : Nat → eE := (e_T 13 (e_T 3 (e_T 1 (e_T 0 (e_L 0 (0, ei_load 0 2 1, 0, 0)) (e_L 1 (0, ei_load 1 0 2, 0, 0))) (e_T 2 (e_L 2 (0, ei_load 2 0 3, 0, 0)) (e_L 3 (2, e_nof, 271, 3)))) (e_T 9 (e_T 6 (e_L 6 (0, ei_if1 0 26 9, 0, 0)) (e_L 9 (0, ei_load 0 2 10, 0, 0))) (e_T 10 (e_L 10 (0, ei_getf eft elay 12 0 13, 0, 0)) (e_L 13 (0, ei_load 1 0 14, 0, 0))))) (e_T 20 (e_T 17 (e_T 14 (e_L 14 (2, e_nof, 268, 1)) (e_L 17 (0, ei_push (0, 16) 19, 0, 0))) (e_T 19 (e_L 19 (0, ei_bin eF_add 20, 0, 0)) (e_L 20 (0, ei_load 2 0 21, 0, 0)))) (e_T 22 (e_T 21 (e_L 21 (0, ei_bin eF_add 22, 0, 0)) (e_L 22 (0, ei_ald elay false 23, 0, 0))) (e_T 23 (e_L 23 (0, ei_goto 27, 0, 0)) (e_T 26 (e_L 26 (0, ei_push (0, (-1)) 27, 0, 0)) (e_L 27 (1, e_nof, 1, 0)))))))
set_option maxRecDepth 20000 in
set_option maxHeartbeats 4000000 in
theorem te_439_0_ok : ∀ pc, e_EOq eft cls elay eI n_439 pc (te_439_0 pc) :=
  (e_Tok2
  (e_Tok2
  (e_Tok2
  (e_Tok2
  (e_Lok (ld_aload_n_0 (x_dk dn_439_0_0_ok 0 rfl)))
  (e_Lok (ld_iload_n_1 (x_dk dn_439_0_0_ok 1 rfl))))
  (e_Tok2
  (e_Lok (ld_iload_n_2 (x_dk dn_439_0_0_ok 2 rfl)))
  (e_Lok (lk_12_333 ho_439 (x_dk dn_439_0_0_ok 3 rfl)))))
  (e_Tok2
  (e_Tok2
  (e_Lok (e_st (I := eI) (er_ifeq (off := 20) (tg := 26) (x_dk dn_439_0_0_ok 4 rfl) (by decide)) nx_if1))
  (e_Lok (ld_aload_n_0 (x_dk dn_439_0_0_ok 5 rfl))))
  (e_Tok2
  (e_Lok (lk_12_8g ho_439 (x_dk dn_439_0_0_ok 6 rfl)))
  (e_Lok (ld_iload_n_1 (x_dk dn_439_0_0_ok 7 rfl))))))
  (e_Tok2
  (e_Tok2
  (e_Tok2
  (e_Lok (lk_12_294 ho_439 (x_dk dn_439_0_0_ok 8 rfl)))
  (e_Lok (ps_bipush_16 (x_dk dn_439_0_0_ok 9 rfl))))
  (e_Tok2
  (e_Lok (sm_iadd (x_dk dn_439_0_0_ok 10 rfl)))
  (e_Lok (ld_iload_n_2 (x_dk dn_439_0_0_ok 11 rfl)))))
  (e_Tok2
  (e_Tok2
  (e_Lok (sm_iadd (x_dk dn_439_0_0_ok 12 rfl)))
  (e_Lok (sm_iaload (x_dk dn_439_0_0_ok 13 rfl))))
  (e_Tok2
  (e_Lok (e_st (I := eI) (er_goto (off := 4) (tg := 27) (x_dk dn_439_0_0_ok 14 rfl) (by decide)) nx_goto))
  (e_Tok2
  (e_Lok (ps_iconst_m1 (x_dk dn_439_0_0_ok 15 rfl)))
  (e_Lok (e_rt (I := eI) (k := 1) ⟨(x_dk dn_439_0_0_ok 16 rfl), rfl⟩)))))))
def te_439 : Nat → eE := te_439_0
theorem te_439_ok : ∀ pc, e_EOq eft cls elay eI n_439 pc (te_439 pc) := te_439_0_ok
theorem ho_440 : (xm_y n_440).cls = "RobotCellHouseModel" := rfl
def dn_440_0_0 : List (Nat × Instr × Nat) := [(0, .aload_n 0, 1), (1, .iload_n 1, 1), (2, .invokevirtual 305, 3), (5, .ifCond .eq 29, 3), (8, .iload_n 2, 1), (9, .i2l, 1), (10, .lconst 0, 1), (11, .aload_n 0, 1), (12, .getfield 43, 3), (15, .iload_n 1, 1), (16, .iaload, 1), (17, .i2l, 1), (18, .invokestatic 301, 3), (21, .ifCond .eq 13, 3), (24, .iload_n 3, 1), (25, .i2l, 1), (26, .lconst 0, 1), (27, .lconst 1, 1), (28, .invokestatic 301, 3), (31, .ifCond .ne 5, 3), (34, .iconst (-1), 1), (35, .ireturn, 1), (36, .aload_n 0, 1), (37, .iload_n 1, 1), (38, .iconst 0, 1)]
set_option maxRecDepth 20000 in
theorem dn_440_0_0_ok : dn_440_0_0.all (fun q => decide (decode (xm_b n_440) q.1 = .ok (q.2.1, q.2.2))) = true := xa_g_ok (by decide +kernel)
def dn_440_0_1 : List (Nat × Instr × Nat) := [(39, .invokevirtual 397, 3), (42, .iload_n 3, 1), (43, .ifCond .ne 17, 3), (46, .aload_n 0, 1), (47, .getfield 149, 3), (50, .bipush 7, 2), (52, .iload_n 1, 1), (53, .imul, 1), (54, .iload_n 2, 1), (55, .iadd, 1), (56, .iaload, 1), (57, .goto 14, 3), (60, .aload_n 0, 1), (61, .getfield 152, 3), (64, .bipush 7, 2), (66, .iload_n 1, 1), (67, .imul, 1), (68, .iload_n 2, 1), (69, .iadd, 1), (70, .iaload, 1), (71, .ireturn, 1)]
set_option maxRecDepth 20000 in
theorem dn_440_0_1_ok : dn_440_0_1.all (fun q => decide (decode (xm_b n_440) q.1 = .ok (q.2.1, q.2.2))) = true := xa_g_ok (by decide +kernel)
def te_440_0 : Nat → eE := (e_T 16 (e_T 8 (e_T 1 (e_T 0 (e_L 0 (0, ei_load 0 2 1, 0, 0)) (e_L 1 (0, ei_load 1 0 2, 0, 0))) (e_T 2 (e_L 2 (2, e_nof, 270, 2)) (e_T 5 (e_L 5 (0, ei_if1 0 34 8, 0, 0)) (e_L 8 (0, ei_load 2 0 9, 0, 0))))) (e_T 11 (e_T 9 (e_L 9 (0, ei_un (fun x => (4, x)) 10, 0, 0)) (e_T 10 (e_L 10 (0, ei_push (4, 0) 11, 0, 0)) (e_L 11 (0, ei_load 0 2 12, 0, 0)))) (e_T 12 (e_L 12 (0, ei_getf eft elay 12 15 15, 0, 0)) (e_T 15 (e_L 15 (0, ei_load 1 0 16, 0, 0)) (e_L 16 (0, ei_ald elay false 17, 0, 0)))))) (e_T 26 (e_T 21 (e_T 17 (e_L 17 (0, ei_un (fun x => (4, x)) 18, 0, 0)) (e_T 18 (e_L 18 (2, e_nof, 266, 3)) (e_L 21 (0, ei_if1 0 34 24, 0, 0)))) (e_T 24 (e_L 24 (0, ei_load 3 0 25, 0, 0)) (e_T 25 (e_L 25 (0, ei_un (fun x => (4, x)) 26, 0, 0)) (e_L 26 (0, ei_push (4, 0) 27, 0, 0))))) (e_T 31 (e_T 27 (e_L 27 (0, ei_push (4, 1) 28, 0, 0)) (e_T 28 (e_L 28 (2, e_nof, 266, 3)) (e_L 31 (0, ei_if1 1 36 34, 0, 0)))) (e_T 34 (e_L 34 (0, ei_push (0, (-1)) 35, 0, 0)) (e_T 35 (e_L 35 (1, e_nof, 1, 0)) (e_L 36 (0, ei_load 0 2 37, 0, 0)))))))
set_option maxRecDepth 20000 in
set_option maxHeartbeats 4000000 in
theorem te_440_0_ok : ∀ pc, e_EOq eft cls elay eI n_440 pc (te_440_0 pc) :=
  (e_Tok2
  (e_Tok2
  (e_Tok2
  (e_Tok2
  (e_Lok (ld_aload_n_0 (x_dk dn_440_0_0_ok 0 rfl)))
  (e_Lok (ld_iload_n_1 (x_dk dn_440_0_0_ok 1 rfl))))
  (e_Tok2
  (e_Lok (lk_12_305 ho_440 (x_dk dn_440_0_0_ok 2 rfl)))
  (e_Tok2
  (e_Lok (e_st (I := eI) (er_ifeq (off := 29) (tg := 34) (x_dk dn_440_0_0_ok 3 rfl) (by decide)) nx_if1))
  (e_Lok (ld_iload_n_2 (x_dk dn_440_0_0_ok 4 rfl))))))
  (e_Tok2
  (e_Tok2
  (e_Lok (e_st (I := eI) (er_i2l (x_dk dn_440_0_0_ok 5 rfl)) (nx_un (fun _ => rfl))))
  (e_Tok2
  (e_Lok (ps_lconst_0 (x_dk dn_440_0_0_ok 6 rfl)))
  (e_Lok (ld_aload_n_0 (x_dk dn_440_0_0_ok 7 rfl)))))
  (e_Tok2
  (e_Lok (lk_12_43g ho_440 (x_dk dn_440_0_0_ok 8 rfl)))
  (e_Tok2
  (e_Lok (ld_iload_n_1 (x_dk dn_440_0_0_ok 9 rfl)))
  (e_Lok (sm_iaload (x_dk dn_440_0_0_ok 10 rfl)))))))
  (e_Tok2
  (e_Tok2
  (e_Tok2
  (e_Lok (e_st (I := eI) (er_i2l (x_dk dn_440_0_0_ok 11 rfl)) (nx_un (fun _ => rfl))))
  (e_Tok2
  (e_Lok (lk_12_301 ho_440 (x_dk dn_440_0_0_ok 12 rfl)))
  (e_Lok (e_st (I := eI) (er_ifeq (off := 13) (tg := 34) (x_dk dn_440_0_0_ok 13 rfl) (by decide)) nx_if1))))
  (e_Tok2
  (e_Lok (ld_iload_n_3 (x_dk dn_440_0_0_ok 14 rfl)))
  (e_Tok2
  (e_Lok (e_st (I := eI) (er_i2l (x_dk dn_440_0_0_ok 15 rfl)) (nx_un (fun _ => rfl))))
  (e_Lok (ps_lconst_0 (x_dk dn_440_0_0_ok 16 rfl))))))
  (e_Tok2
  (e_Tok2
  (e_Lok (ps_lconst_1 (x_dk dn_440_0_0_ok 17 rfl)))
  (e_Tok2
  (e_Lok (lk_12_301 ho_440 (x_dk dn_440_0_0_ok 18 rfl)))
  (e_Lok (e_st (I := eI) (er_ifne (off := 5) (tg := 36) (x_dk dn_440_0_0_ok 19 rfl) (by decide)) nx_if1))))
  (e_Tok2
  (e_Lok (ps_iconst_m1 (x_dk dn_440_0_0_ok 20 rfl)))
  (e_Tok2
  (e_Lok (e_rt (I := eI) (k := 1) ⟨(x_dk dn_440_0_0_ok 21 rfl), rfl⟩))
  (e_Lok (ld_aload_n_0 (x_dk dn_440_0_0_ok 22 rfl))))))))
def te_440_23 : Nat → eE := (e_T 54 (e_T 43 (e_T 38 (e_T 37 (e_L 37 (0, ei_load 1 0 38, 0, 0)) (e_L 38 (0, ei_push (0, 0) 39, 0, 0))) (e_T 39 (e_L 39 (2, e_nof, 301, 3)) (e_T 42 (e_L 42 (0, ei_load 3 0 43, 0, 0)) (e_L 43 (0, ei_if1 1 60 46, 0, 0))))) (e_T 50 (e_T 46 (e_L 46 (0, ei_load 0 2 47, 0, 0)) (e_T 47 (e_L 47 (0, ei_getf eft elay 12 55 50, 0, 0)) (e_L 50 (0, ei_push (0, 7) 52, 0, 0)))) (e_T 52 (e_L 52 (0, ei_load 1 0 53, 0, 0)) (e_T 53 (e_L 53 (0, ei_bin eF_mul 54, 0, 0)) (e_L 54 (0, ei_load 2 0 55, 0, 0)))))) (e_T 64 (e_T 57 (e_T 55 (e_L 55 (0, ei_bin eF_add 56, 0, 0)) (e_T 56 (e_L 56 (0, ei_ald elay false 57, 0, 0)) (e_L 57 (0, ei_goto 71, 0, 0)))) (e_T 60 (e_L 60 (0, ei_load 0 2 61, 0, 0)) (e_T 61 (e_L 61 (0, ei_getf eft elay 12 56 64, 0, 0)) (e_L 64 (0, ei_push (0, 7) 66, 0, 0))))) (e_T 68 (e_T 66 (e_L 66 (0, ei_load 1 0 67, 0, 0)) (e_T 67 (e_L 67 (0, ei_bin eF_mul 68, 0, 0)) (e_L 68 (0, ei_load 2 0 69, 0, 0)))) (e_T 69 (e_L 69 (0, ei_bin eF_add 70, 0, 0)) (e_T 70 (e_L 70 (0, ei_ald elay false 71, 0, 0)) (e_L 71 (1, e_nof, 1, 0)))))))
set_option maxRecDepth 20000 in
set_option maxHeartbeats 4000000 in
theorem te_440_23_ok : ∀ pc, e_EOq eft cls elay eI n_440 pc (te_440_23 pc) :=
  (e_Tok2
  (e_Tok2
  (e_Tok2
  (e_Tok2
  (e_Lok (ld_iload_n_1 (x_dk dn_440_0_0_ok 23 rfl)))
  (e_Lok (ps_iconst_0 (x_dk dn_440_0_0_ok 24 rfl))))
  (e_Tok2
  (e_Lok (lk_12_397 ho_440 (x_dk dn_440_0_1_ok 0 rfl)))
  (e_Tok2
  (e_Lok (ld_iload_n_3 (x_dk dn_440_0_1_ok 1 rfl)))
  (e_Lok (e_st (I := eI) (er_ifne (off := 17) (tg := 60) (x_dk dn_440_0_1_ok 2 rfl) (by decide)) nx_if1)))))
  (e_Tok2
  (e_Tok2
  (e_Lok (ld_aload_n_0 (x_dk dn_440_0_1_ok 3 rfl)))
  (e_Tok2
  (e_Lok (lk_12_149g ho_440 (x_dk dn_440_0_1_ok 4 rfl)))
  (e_Lok (ps_bipush_7 (x_dk dn_440_0_1_ok 5 rfl)))))
  (e_Tok2
  (e_Lok (ld_iload_n_1 (x_dk dn_440_0_1_ok 6 rfl)))
  (e_Tok2
  (e_Lok (sm_imul (x_dk dn_440_0_1_ok 7 rfl)))
  (e_Lok (ld_iload_n_2 (x_dk dn_440_0_1_ok 8 rfl)))))))
  (e_Tok2
  (e_Tok2
  (e_Tok2
  (e_Lok (sm_iadd (x_dk dn_440_0_1_ok 9 rfl)))
  (e_Tok2
  (e_Lok (sm_iaload (x_dk dn_440_0_1_ok 10 rfl)))
  (e_Lok (e_st (I := eI) (er_goto (off := 14) (tg := 71) (x_dk dn_440_0_1_ok 11 rfl) (by decide)) nx_goto))))
  (e_Tok2
  (e_Lok (ld_aload_n_0 (x_dk dn_440_0_1_ok 12 rfl)))
  (e_Tok2
  (e_Lok (lk_12_152g ho_440 (x_dk dn_440_0_1_ok 13 rfl)))
  (e_Lok (ps_bipush_7 (x_dk dn_440_0_1_ok 14 rfl))))))
  (e_Tok2
  (e_Tok2
  (e_Lok (ld_iload_n_1 (x_dk dn_440_0_1_ok 15 rfl)))
  (e_Tok2
  (e_Lok (sm_imul (x_dk dn_440_0_1_ok 16 rfl)))
  (e_Lok (ld_iload_n_2 (x_dk dn_440_0_1_ok 17 rfl)))))
  (e_Tok2
  (e_Lok (sm_iadd (x_dk dn_440_0_1_ok 18 rfl)))
  (e_Tok2
  (e_Lok (sm_iaload (x_dk dn_440_0_1_ok 19 rfl)))
  (e_Lok (e_rt (I := eI) (k := 1) ⟨(x_dk dn_440_0_1_ok 20 rfl), rfl⟩)))))))
def te_440 : Nat → eE := (e_T 36 te_440_0 te_440_23)
theorem te_440_ok : ∀ pc, e_EOq eft cls elay eI n_440 pc (te_440 pc) := (e_Tok2 (te_440_0_ok) (te_440_23_ok))
theorem ho_441 : (xm_y n_441).cls = "RobotCellHouseModel" := rfl
def dn_441_0_0 : List (Nat × Instr × Nat) := [(0, .aload_n 0, 1), (1, .iload_n 1, 1), (2, .invokevirtual 305, 3), (5, .ifCond .eq 45, 3), (8, .iload_n 2, 1), (9, .i2l, 1), (10, .lconst 0, 1), (11, .aload_n 0, 1), (12, .getfield 8, 3), (15, .iload_n 1, 1), (16, .invokestatic 294, 3), (19, .iconst 3, 1), (20, .iadd, 1), (21, .iaload, 1), (22, .iconst 1, 1), (23, .isub, 1), (24, .i2l, 1), (25, .invokestatic 301, 3), (28, .ifCond .eq 22, 3), (31, .aload_n 0, 1), (32, .getfield 8, 3), (35, .sipush 21060, 3), (38, .sipush 1000, 3), (41, .iload_n 1, 1), (42, .imul, 1)]
set_option maxRecDepth 20000 in
theorem dn_441_0_0_ok : dn_441_0_0.all (fun q => decide (decode (xm_b n_441) q.1 = .ok (q.2.1, q.2.2))) = true := xa_g_ok (by decide +kernel)
def dn_441_0_1 : List (Nat × Instr × Nat) := [(43, .iadd, 1), (44, .iload_n 2, 1), (45, .iadd, 1), (46, .iaload, 1), (47, .goto 4, 3), (50, .iconst (-1), 1), (51, .ireturn, 1)]
set_option maxRecDepth 20000 in
theorem dn_441_0_1_ok : dn_441_0_1.all (fun q => decide (decode (xm_b n_441) q.1 = .ok (q.2.1, q.2.2))) = true := xa_g_ok (by decide +kernel)
def te_441_0 : Nat → eE := (e_T 23 (e_T 11 (e_T 5 (e_T 1 (e_T 0 (e_L 0 (0, ei_load 0 2 1, 0, 0)) (e_L 1 (0, ei_load 1 0 2, 0, 0))) (e_T 2 (e_L 2 (2, e_nof, 270, 2)) (e_L 5 (0, ei_if1 0 50 8, 0, 0)))) (e_T 9 (e_T 8 (e_L 8 (0, ei_load 2 0 9, 0, 0)) (e_L 9 (0, ei_un (fun x => (4, x)) 10, 0, 0))) (e_T 10 (e_L 10 (0, ei_push (4, 0) 11, 0, 0)) (e_L 11 (0, ei_load 0 2 12, 0, 0))))) (e_T 19 (e_T 15 (e_T 12 (e_L 12 (0, ei_getf eft elay 12 0 15, 0, 0)) (e_L 15 (0, ei_load 1 0 16, 0, 0))) (e_T 16 (e_L 16 (2, e_nof, 268, 1)) (e_L 19 (0, ei_push (0, 3) 20, 0, 0)))) (e_T 21 (e_T 20 (e_L 20 (0, ei_bin eF_add 21, 0, 0)) (e_L 21 (0, ei_ald elay false 22, 0, 0))) (e_T 22 (e_L 22 (0, ei_push (0, 1) 23, 0, 0)) (e_L 23 (0, ei_bin eF_sub 24, 0, 0)))))) (e_T 41 (e_T 31 (e_T 25 (e_T 24 (e_L 24 (0, ei_un (fun x => (4, x)) 25, 0, 0)) (e_L 25 (2, e_nof, 266, 3))) (e_T 28 (e_L 28 (0, ei_if1 0 50 31, 0, 0)) (e_L 31 (0, ei_load 0 2 32, 0, 0)))) (e_T 35 (e_T 32 (e_L 32 (0, ei_getf eft elay 12 0 35, 0, 0)) (e_L 35 (0, ei_push (0, 21060) 38, 0, 0))) (e_T 38 (e_L 38 (0, ei_push (0, 1000) 41, 0, 0)) (e_L 41 (0, ei_load 1 0 42, 0, 0))))) (e_T 45 (e_T 43 (e_T 42 (e_L 42 (0, ei_bin eF_mul 43, 0, 0)) (e_L 43 (0, ei_bin eF_add 44, 0, 0))) (e_T 44 (e_L 44 (0, ei_load 2 0 45, 0, 0)) (e_L 45 (0, ei_bin eF_add 46, 0, 0)))) (e_T 47 (e_T 46 (e_L 46 (0, ei_ald elay false 47, 0, 0)) (e_L 47 (0, ei_goto 51, 0, 0))) (e_T 50 (e_L 50 (0, ei_push (0, (-1)) 51, 0, 0)) (e_L 51 (1, e_nof, 1, 0)))))))
set_option maxRecDepth 20000 in
set_option maxHeartbeats 4000000 in
theorem te_441_0_ok : ∀ pc, e_EOq eft cls elay eI n_441 pc (te_441_0 pc) :=
  (e_Tok2
  (e_Tok2
  (e_Tok2
  (e_Tok2
  (e_Tok2
  (e_Lok (ld_aload_n_0 (x_dk dn_441_0_0_ok 0 rfl)))
  (e_Lok (ld_iload_n_1 (x_dk dn_441_0_0_ok 1 rfl))))
  (e_Tok2
  (e_Lok (lk_12_305 ho_441 (x_dk dn_441_0_0_ok 2 rfl)))
  (e_Lok (e_st (I := eI) (er_ifeq (off := 45) (tg := 50) (x_dk dn_441_0_0_ok 3 rfl) (by decide)) nx_if1))))
  (e_Tok2
  (e_Tok2
  (e_Lok (ld_iload_n_2 (x_dk dn_441_0_0_ok 4 rfl)))
  (e_Lok (e_st (I := eI) (er_i2l (x_dk dn_441_0_0_ok 5 rfl)) (nx_un (fun _ => rfl)))))
  (e_Tok2
  (e_Lok (ps_lconst_0 (x_dk dn_441_0_0_ok 6 rfl)))
  (e_Lok (ld_aload_n_0 (x_dk dn_441_0_0_ok 7 rfl))))))
  (e_Tok2
  (e_Tok2
  (e_Tok2
  (e_Lok (lk_12_8g ho_441 (x_dk dn_441_0_0_ok 8 rfl)))
  (e_Lok (ld_iload_n_1 (x_dk dn_441_0_0_ok 9 rfl))))
  (e_Tok2
  (e_Lok (lk_12_294 ho_441 (x_dk dn_441_0_0_ok 10 rfl)))
  (e_Lok (ps_iconst_3 (x_dk dn_441_0_0_ok 11 rfl)))))
  (e_Tok2
  (e_Tok2
  (e_Lok (sm_iadd (x_dk dn_441_0_0_ok 12 rfl)))
  (e_Lok (sm_iaload (x_dk dn_441_0_0_ok 13 rfl))))
  (e_Tok2
  (e_Lok (ps_iconst_1 (x_dk dn_441_0_0_ok 14 rfl)))
  (e_Lok (sm_isub (x_dk dn_441_0_0_ok 15 rfl)))))))
  (e_Tok2
  (e_Tok2
  (e_Tok2
  (e_Tok2
  (e_Lok (e_st (I := eI) (er_i2l (x_dk dn_441_0_0_ok 16 rfl)) (nx_un (fun _ => rfl))))
  (e_Lok (lk_12_301 ho_441 (x_dk dn_441_0_0_ok 17 rfl))))
  (e_Tok2
  (e_Lok (e_st (I := eI) (er_ifeq (off := 22) (tg := 50) (x_dk dn_441_0_0_ok 18 rfl) (by decide)) nx_if1))
  (e_Lok (ld_aload_n_0 (x_dk dn_441_0_0_ok 19 rfl)))))
  (e_Tok2
  (e_Tok2
  (e_Lok (lk_12_8g ho_441 (x_dk dn_441_0_0_ok 20 rfl)))
  (e_Lok (ps_sipush_21060 (x_dk dn_441_0_0_ok 21 rfl))))
  (e_Tok2
  (e_Lok (ps_sipush_1000 (x_dk dn_441_0_0_ok 22 rfl)))
  (e_Lok (ld_iload_n_1 (x_dk dn_441_0_0_ok 23 rfl))))))
  (e_Tok2
  (e_Tok2
  (e_Tok2
  (e_Lok (sm_imul (x_dk dn_441_0_0_ok 24 rfl)))
  (e_Lok (sm_iadd (x_dk dn_441_0_1_ok 0 rfl))))
  (e_Tok2
  (e_Lok (ld_iload_n_2 (x_dk dn_441_0_1_ok 1 rfl)))
  (e_Lok (sm_iadd (x_dk dn_441_0_1_ok 2 rfl)))))
  (e_Tok2
  (e_Tok2
  (e_Lok (sm_iaload (x_dk dn_441_0_1_ok 3 rfl)))
  (e_Lok (e_st (I := eI) (er_goto (off := 4) (tg := 51) (x_dk dn_441_0_1_ok 4 rfl) (by decide)) nx_goto)))
  (e_Tok2
  (e_Lok (ps_iconst_m1 (x_dk dn_441_0_1_ok 5 rfl)))
  (e_Lok (e_rt (I := eI) (k := 1) ⟨(x_dk dn_441_0_1_ok 6 rfl), rfl⟩)))))))
def te_441 : Nat → eE := te_441_0
theorem te_441_ok : ∀ pc, e_EOq eft cls elay eI n_441 pc (te_441 pc) := te_441_0_ok
theorem ho_442 : (xm_y n_442).cls = "RobotCellHouseModel" := rfl
def dn_442_0_0 : List (Nat × Instr × Nat) := [(0, .iload_n 1, 1), (1, .i2l, 1), (2, .lconst 0, 1), (3, .ldc2_w 922, 3), (6, .invokestatic 301, 3), (9, .ifCond .eq 15, 3), (12, .iload_n 2, 1), (13, .i2l, 1), (14, .lconst 0, 1), (15, .ldc2_w 348, 3), (18, .invokestatic 301, 3), (21, .ifCond .ne 5, 3), (24, .iconst (-1), 1), (25, .ireturn, 1), (26, .aload_n 0, 1), (27, .getfield 8, 3), (30, .iload_n 1, 1), (31, .invokestatic 298, 3), (34, .iload_n 2, 1), (35, .iconst 3, 1), (36, .if_icmp .ge 7, 3), (39, .iload_n 2, 1), (40, .goto 5, 3), (43, .bipush 12, 2), (45, .iadd, 1)]
set_option maxRecDepth 20000 in
theorem dn_442_0_0_ok : dn_442_0_0.all (fun q => decide (decode (xm_b n_442) q.1 = .ok (q.2.1, q.2.2))) = true := xa_g_ok (by decide +kernel)
def dn_442_0_1 : List (Nat × Instr × Nat) := [(46, .iaload, 1), (47, .ireturn, 1)]
set_option maxRecDepth 20000 in
theorem dn_442_0_1_ok : dn_442_0_1.all (fun q => decide (decode (xm_b n_442) q.1 = .ok (q.2.1, q.2.2))) = true := xa_g_ok (by decide +kernel)
def te_442_0 : Nat → eE := (e_T 24 (e_T 9 (e_T 2 (e_T 0 (e_L 0 (0, ei_load 1 0 1, 0, 0)) (e_T 1 (e_L 1 (0, ei_un (fun x => (4, x)) 2, 0, 0)) (e_L 2 (0, ei_push (4, 0) 3, 0, 0)))) (e_T 3 (e_L 3 (0, ei_push (4, 15) 6, 0, 0)) (e_T 6 (e_L 6 (2, e_nof, 266, 3)) (e_L 9 (0, ei_if1 0 24 12, 0, 0))))) (e_T 14 (e_T 12 (e_L 12 (0, ei_load 2 0 13, 0, 0)) (e_T 13 (e_L 13 (0, ei_un (fun x => (4, x)) 14, 0, 0)) (e_L 14 (0, ei_push (4, 0) 15, 0, 0)))) (e_T 18 (e_T 15 (e_L 15 (0, ei_push (4, 3) 18, 0, 0)) (e_L 18 (2, e_nof, 266, 3))) (e_T 21 (e_L 21 (0, ei_if1 1 26 24, 0, 0)) (e_L 24 (0, ei_push (0, (-1)) 25, 0, 0)))))) (e_T 35 (e_T 27 (e_T 25 (e_L 25 (1, e_nof, 1, 0)) (e_T 26 (e_L 26 (0, ei_load 0 2 27, 0, 0)) (e_L 27 (0, ei_getf eft elay 12 0 30, 0, 0)))) (e_T 31 (e_T 30 (e_L 30 (0, ei_load 1 0 31, 0, 0)) (e_L 31 (2, e_nof, 269, 1))) (e_T 34 (e_L 34 (0, ei_load 2 0 35, 0, 0)) (e_L 35 (0, ei_push (0, 3) 36, 0, 0))))) (e_T 40 (e_T 36 (e_L 36 (0, ei_if2 3 43 39, 0, 0)) (e_T 39 (e_L 39 (0, ei_load 2 0 40, 0, 0)) (e_L 40 (0, ei_goto 45, 0, 0)))) (e_T 45 (e_T 43 (e_L 43 (0, ei_push (0, 12) 45, 0, 0)) (e_L 45 (0, ei_bin eF_add 46, 0, 0))) (e_T 46 (e_L 46 (0, ei_ald elay false 47, 0, 0)) (e_L 47 (1, e_nof, 1, 0)))))))
set_option maxRecDepth 20000 in
set_option maxHeartbeats 4000000 in
theorem te_442_0_ok : ∀ pc, e_EOq eft cls elay eI n_442 pc (te_442_0 pc) :=
  (e_Tok2
  (e_Tok2
  (e_Tok2
  (e_Tok2
  (e_Lok (ld_iload_n_1 (x_dk dn_442_0_0_ok 0 rfl)))
  (e_Tok2
  (e_Lok (e_st (I := eI) (er_i2l (x_dk dn_442_0_0_ok 1 rfl)) (nx_un (fun _ => rfl))))
  (e_Lok (ps_lconst_0 (x_dk dn_442_0_0_ok 2 rfl)))))
  (e_Tok2
  (e_Lok (e_st (I := eI) (er_ldc2 (ix := 922) (z := 15) (v := 15) (x_dk dn_442_0_0_ok 3 rfl) (in_t13 (List.mem_of_getElem? (i := 228) rfl) rfl) (by decide)) (nx_push (Or.inl rfl))))
  (e_Tok2
  (e_Lok (lk_12_301 ho_442 (x_dk dn_442_0_0_ok 4 rfl)))
  (e_Lok (e_st (I := eI) (er_ifeq (off := 15) (tg := 24) (x_dk dn_442_0_0_ok 5 rfl) (by decide)) nx_if1)))))
  (e_Tok2
  (e_Tok2
  (e_Lok (ld_iload_n_2 (x_dk dn_442_0_0_ok 6 rfl)))
  (e_Tok2
  (e_Lok (e_st (I := eI) (er_i2l (x_dk dn_442_0_0_ok 7 rfl)) (nx_un (fun _ => rfl))))
  (e_Lok (ps_lconst_0 (x_dk dn_442_0_0_ok 8 rfl)))))
  (e_Tok2
  (e_Tok2
  (e_Lok (e_st (I := eI) (er_ldc2 (ix := 348) (z := 3) (v := 3) (x_dk dn_442_0_0_ok 9 rfl) (in_t11 (List.mem_of_getElem? (i := 71) rfl) rfl) (by decide)) (nx_push (Or.inl rfl))))
  (e_Lok (lk_12_301 ho_442 (x_dk dn_442_0_0_ok 10 rfl))))
  (e_Tok2
  (e_Lok (e_st (I := eI) (er_ifne (off := 5) (tg := 26) (x_dk dn_442_0_0_ok 11 rfl) (by decide)) nx_if1))
  (e_Lok (ps_iconst_m1 (x_dk dn_442_0_0_ok 12 rfl)))))))
  (e_Tok2
  (e_Tok2
  (e_Tok2
  (e_Lok (e_rt (I := eI) (k := 1) ⟨(x_dk dn_442_0_0_ok 13 rfl), rfl⟩))
  (e_Tok2
  (e_Lok (ld_aload_n_0 (x_dk dn_442_0_0_ok 14 rfl)))
  (e_Lok (lk_12_8g ho_442 (x_dk dn_442_0_0_ok 15 rfl)))))
  (e_Tok2
  (e_Tok2
  (e_Lok (ld_iload_n_1 (x_dk dn_442_0_0_ok 16 rfl)))
  (e_Lok (lk_12_298 ho_442 (x_dk dn_442_0_0_ok 17 rfl))))
  (e_Tok2
  (e_Lok (ld_iload_n_2 (x_dk dn_442_0_0_ok 18 rfl)))
  (e_Lok (ps_iconst_3 (x_dk dn_442_0_0_ok 19 rfl))))))
  (e_Tok2
  (e_Tok2
  (e_Lok (e_st (I := eI) (er_icmpge (off := 7) (tg := 43) (x_dk dn_442_0_0_ok 20 rfl) (by decide)) nx_if2))
  (e_Tok2
  (e_Lok (ld_iload_n_2 (x_dk dn_442_0_0_ok 21 rfl)))
  (e_Lok (e_st (I := eI) (er_goto (off := 5) (tg := 45) (x_dk dn_442_0_0_ok 22 rfl) (by decide)) nx_goto))))
  (e_Tok2
  (e_Tok2
  (e_Lok (ps_bipush_12 (x_dk dn_442_0_0_ok 23 rfl)))
  (e_Lok (sm_iadd (x_dk dn_442_0_0_ok 24 rfl))))
  (e_Tok2
  (e_Lok (sm_iaload (x_dk dn_442_0_1_ok 0 rfl)))
  (e_Lok (e_rt (I := eI) (k := 1) ⟨(x_dk dn_442_0_1_ok 1 rfl), rfl⟩)))))))
def te_442 : Nat → eE := te_442_0
theorem te_442_ok : ∀ pc, e_EOq eft cls elay eI n_442 pc (te_442 pc) := te_442_0_ok
theorem ho_443 : (xm_y n_443).cls = "RobotCellHouseModel" := rfl
def dn_443_0_0 : List (Nat × Instr × Nat) := [(0, .aload_n 0, 1), (1, .iload_n 1, 1), (2, .invokevirtual 305, 3), (5, .ifCond .eq 39, 3), (8, .iload_n 2, 1), (9, .i2l, 1), (10, .lconst 0, 1), (11, .aload_n 0, 1), (12, .getfield 204, 3), (15, .iload_n 1, 1), (16, .iaload, 1), (17, .iconst 1, 1), (18, .isub, 1), (19, .i2l, 1), (20, .invokestatic 301, 3), (23, .ifCond .eq 21, 3), (26, .aload_n 0, 1), (27, .getfield 8, 3), (30, .sipush 20932, 3), (33, .bipush 32, 2), (35, .iload_n 1, 1), (36, .imul, 1), (37, .iadd, 1), (38, .iload_n 2, 1), (39, .iadd, 1)]
set_option maxRecDepth 20000 in
theorem dn_443_0_0_ok : dn_443_0_0.all (fun q => decide (decode (xm_b n_443) q.1 = .ok (q.2.1, q.2.2))) = true := xa_g_ok (by decide +kernel)
def dn_443_0_1 : List (Nat × Instr × Nat) := [(40, .iaload, 1), (41, .goto 4, 3), (44, .iconst (-1), 1), (45, .ireturn, 1)]
set_option maxRecDepth 20000 in
theorem dn_443_0_1_ok : dn_443_0_1.all (fun q => decide (decode (xm_b n_443) q.1 = .ok (q.2.1, q.2.2))) = true := xa_g_ok (by decide +kernel)
def te_443_0 : Nat → eE := (e_T 19 (e_T 10 (e_T 2 (e_T 0 (e_L 0 (0, ei_load 0 2 1, 0, 0)) (e_T 1 (e_L 1 (0, ei_load 1 0 2, 0, 0)) (e_L 2 (2, e_nof, 270, 2)))) (e_T 8 (e_T 5 (e_L 5 (0, ei_if1 0 44 8, 0, 0)) (e_L 8 (0, ei_load 2 0 9, 0, 0))) (e_T 9 (e_L 9 (0, ei_un (fun x => (4, x)) 10, 0, 0)) (e_L 10 (0, ei_push (4, 0) 11, 0, 0))))) (e_T 15 (e_T 11 (e_L 11 (0, ei_load 0 2 12, 0, 0)) (e_T 12 (e_L 12 (0, ei_getf eft elay 12 76 15, 0, 0)) (e_L 15 (0, ei_load 1 0 16, 0, 0)))) (e_T 17 (e_T 16 (e_L 16 (0, ei_ald elay false 17, 0, 0)) (e_L 17 (0, ei_push (0, 1) 18, 0, 0))) (e_T 18 (e_L 18 (0, ei_bin eF_sub 19, 0, 0)) (e_L 19 (0, ei_un (fun x => (4, x)) 20, 0, 0)))))) (e_T 35 (e_T 26 (e_T 20 (e_L 20 (2, e_nof, 266, 3)) (e_T 23 (e_L 23 (0, ei_if1 0 44 26, 0, 0)) (e_L 26 (0, ei_load 0 2 27, 0, 0)))) (e_T 30 (e_T 27 (e_L 27 (0, ei_getf eft elay 12 0 30, 0, 0)) (e_L 30 (0, ei_push (0, 20932) 33, 0, 0))) (e_T 33 (e_L 33 (0, ei_push (0, 32) 35, 0, 0)) (e_L 35 (0, ei_load 1 0 36, 0, 0))))) (e_T 39 (e_T 37 (e_T 36 (e_L 36 (0, ei_bin eF_mul 37, 0, 0)) (e_L 37 (0, ei_bin eF_add 38, 0, 0))) (e_T 38 (e_L 38 (0, ei_load 2 0 39, 0, 0)) (e_L 39 (0, ei_bin eF_add 40, 0, 0)))) (e_T 41 (e_T 40 (e_L 40 (0, ei_ald elay false 41, 0, 0)) (e_L 41 (0, ei_goto 45, 0, 0))) (e_T 44 (e_L 44 (0, ei_push (0, (-1)) 45, 0, 0)) (e_L 45 (1, e_nof, 1, 0)))))))
set_option maxRecDepth 20000 in
set_option maxHeartbeats 4000000 in
theorem te_443_0_ok : ∀ pc, e_EOq eft cls elay eI n_443 pc (te_443_0 pc) :=
  (e_Tok2
  (e_Tok2
  (e_Tok2
  (e_Tok2
  (e_Lok (ld_aload_n_0 (x_dk dn_443_0_0_ok 0 rfl)))
  (e_Tok2
  (e_Lok (ld_iload_n_1 (x_dk dn_443_0_0_ok 1 rfl)))
  (e_Lok (lk_12_305 ho_443 (x_dk dn_443_0_0_ok 2 rfl)))))
  (e_Tok2
  (e_Tok2
  (e_Lok (e_st (I := eI) (er_ifeq (off := 39) (tg := 44) (x_dk dn_443_0_0_ok 3 rfl) (by decide)) nx_if1))
  (e_Lok (ld_iload_n_2 (x_dk dn_443_0_0_ok 4 rfl))))
  (e_Tok2
  (e_Lok (e_st (I := eI) (er_i2l (x_dk dn_443_0_0_ok 5 rfl)) (nx_un (fun _ => rfl))))
  (e_Lok (ps_lconst_0 (x_dk dn_443_0_0_ok 6 rfl))))))
  (e_Tok2
  (e_Tok2
  (e_Lok (ld_aload_n_0 (x_dk dn_443_0_0_ok 7 rfl)))
  (e_Tok2
  (e_Lok (lk_12_204g ho_443 (x_dk dn_443_0_0_ok 8 rfl)))
  (e_Lok (ld_iload_n_1 (x_dk dn_443_0_0_ok 9 rfl)))))
  (e_Tok2
  (e_Tok2
  (e_Lok (sm_iaload (x_dk dn_443_0_0_ok 10 rfl)))
  (e_Lok (ps_iconst_1 (x_dk dn_443_0_0_ok 11 rfl))))
  (e_Tok2
  (e_Lok (sm_isub (x_dk dn_443_0_0_ok 12 rfl)))
  (e_Lok (e_st (I := eI) (er_i2l (x_dk dn_443_0_0_ok 13 rfl)) (nx_un (fun _ => rfl))))))))
  (e_Tok2
  (e_Tok2
  (e_Tok2
  (e_Lok (lk_12_301 ho_443 (x_dk dn_443_0_0_ok 14 rfl)))
  (e_Tok2
  (e_Lok (e_st (I := eI) (er_ifeq (off := 21) (tg := 44) (x_dk dn_443_0_0_ok 15 rfl) (by decide)) nx_if1))
  (e_Lok (ld_aload_n_0 (x_dk dn_443_0_0_ok 16 rfl)))))
  (e_Tok2
  (e_Tok2
  (e_Lok (lk_12_8g ho_443 (x_dk dn_443_0_0_ok 17 rfl)))
  (e_Lok (ps_sipush_20932 (x_dk dn_443_0_0_ok 18 rfl))))
  (e_Tok2
  (e_Lok (ps_bipush_32 (x_dk dn_443_0_0_ok 19 rfl)))
  (e_Lok (ld_iload_n_1 (x_dk dn_443_0_0_ok 20 rfl))))))
  (e_Tok2
  (e_Tok2
  (e_Tok2
  (e_Lok (sm_imul (x_dk dn_443_0_0_ok 21 rfl)))
  (e_Lok (sm_iadd (x_dk dn_443_0_0_ok 22 rfl))))
  (e_Tok2
  (e_Lok (ld_iload_n_2 (x_dk dn_443_0_0_ok 23 rfl)))
  (e_Lok (sm_iadd (x_dk dn_443_0_0_ok 24 rfl)))))
  (e_Tok2
  (e_Tok2
  (e_Lok (sm_iaload (x_dk dn_443_0_1_ok 0 rfl)))
  (e_Lok (e_st (I := eI) (er_goto (off := 4) (tg := 45) (x_dk dn_443_0_1_ok 1 rfl) (by decide)) nx_goto)))
  (e_Tok2
  (e_Lok (ps_iconst_m1 (x_dk dn_443_0_1_ok 2 rfl)))
  (e_Lok (e_rt (I := eI) (k := 1) ⟨(x_dk dn_443_0_1_ok 3 rfl), rfl⟩)))))))
def te_443 : Nat → eE := te_443_0
theorem te_443_ok : ∀ pc, e_EOq eft cls elay eI n_443 pc (te_443 pc) := te_443_0_ok
theorem ho_444 : (xm_y n_444).cls = "RobotCellHouseModel" := rfl
def dn_444_0_0 : List (Nat × Instr × Nat) := [(0, .aload_n 0, 1), (1, .iload_n 1, 1), (2, .invokevirtual 876, 3), (5, .ifCond .eq 15, 3), (8, .iload_n 2, 1), (9, .i2l, 1), (10, .lconst 0, 1), (11, .ldc2_w 750, 3), (14, .invokestatic 301, 3), (17, .ifCond .ne 5, 3), (20, .iconst (-1), 1), (21, .ireturn, 1), (22, .iload_n 2, 1), (23, .ifCond .ne 11, 3), (26, .aload_n 0, 1), (27, .iload_n 1, 1), (28, .invokevirtual 464, 3), (31, .goto 31, 3), (34, .iload_n 2, 1), (35, .iconst 1, 1), (36, .if_icmp .ne 16, 3), (39, .aload_n 0, 1), (40, .getfield 8, 3), (43, .sipush 160, 3), (46, .iload_n 1, 1)]
set_option maxRecDepth 20000 in
theorem dn_444_0_0_ok : dn_444_0_0.all (fun q => decide (decode (xm_b n_444) q.1 = .ok (q.2.1, q.2.2))) = true := xa_g_ok (by decide +kernel)
def dn_444_0_1 : List (Nat × Instr × Nat) := [(47, .iadd, 1), (48, .iaload, 1), (49, .goto 13, 3), (52, .aload_n 0, 1), (53, .getfield 8, 3), (56, .sipush 352, 3), (59, .iload_n 1, 1), (60, .iadd, 1), (61, .iaload, 1), (62, .ireturn, 1)]
set_option maxRecDepth 20000 in
theorem dn_444_0_1_ok : dn_444_0_1.all (fun q => decide (decode (xm_b n_444) q.1 = .ok (q.2.1, q.2.2))) = true := xa_g_ok (by decide +kernel)
def te_444_0 : Nat → eE := (e_T 28 (e_T 11 (e_T 5 (e_T 1 (e_T 0 (e_L 0 (0, ei_load 0 2 1, 0, 0)) (e_L 1 (0, ei_load 1 0 2, 0, 0))) (e_T 2 (e_L 2 (2, e_nof, 424, 2)) (e_L 5 (0, ei_if1 0 20 8, 0, 0)))) (e_T 9 (e_T 8 (e_L 8 (0, ei_load 2 0 9, 0, 0)) (e_L 9 (0, ei_un (fun x => (4, x)) 10, 0, 0))) (e_T 10 (e_L 10 (0, ei_push (4, 0) 11, 0, 0)) (e_L 11 (0, ei_push (4, 2) 14, 0, 0))))) (e_T 21 (e_T 17 (e_T 14 (e_L 14 (2, e_nof, 266, 3)) (e_L 17 (0, ei_if1 1 22 20, 0, 0))) (e_T 20 (e_L 20 (0, ei_push (0, (-1)) 21, 0, 0)) (e_L 21 (1, e_nof, 1, 0)))) (e_T 23 (e_T 22 (e_L 22 (0, ei_load 2 0 23, 0, 0)) (e_L 23 (0, ei_if1 1 34 26, 0, 0))) (e_T 26 (e_L 26 (0, ei_load 0 2 27, 0, 0)) (e_T 27 (e_L 27 (0, ei_load 1 0 28, 0, 0)) (e_L 28 (2, e_nof, 320, 2))))))) (e_T 47 (e_T 36 (e_T 34 (e_T 31 (e_L 31 (0, ei_goto 62, 0, 0)) (e_L 34 (0, ei_load 2 0 35, 0, 0))) (e_T 35 (e_L 35 (0, ei_push (0, 1) 36, 0, 0)) (e_L 36 (0, ei_if2 1 52 39, 0, 0)))) (e_T 40 (e_T 39 (e_L 39 (0, ei_load 0 2 40, 0, 0)) (e_L 40 (0, ei_getf eft elay 12 0 43, 0, 0))) (e_T 43 (e_L 43 (0, ei_push (0, 160) 46, 0, 0)) (e_T 46 (e_L 46 (0, ei_load 1 0 47, 0, 0)) (e_L 47 (0, ei_bin eF_add 48, 0, 0)))))) (e_T 53 (e_T 49 (e_T 48 (e_L 48 (0, ei_ald elay false 49, 0, 0)) (e_L 49 (0, ei_goto 62, 0, 0))) (e_T 52 (e_L 52 (0, ei_load 0 2 53, 0, 0)) (e_L 53 (0, ei_getf eft elay 12 0 56, 0, 0)))) (e_T 59 (e_T 56 (e_L 56 (0, ei_push (0, 352) 59, 0, 0)) (e_L 59 (0, ei_load 1 0 60, 0, 0))) (e_T 60 (e_L 60 (0, ei_bin eF_add 61, 0, 0)) (e_T 61 (e_L 61 (0, ei_ald elay false 62, 0, 0)) (e_L 62 (1, e_nof, 1, 0))))))))
set_option maxRecDepth 20000 in
set_option maxHeartbeats 4000000 in
theorem te_444_0_ok : ∀ pc, e_EOq eft cls elay eI n_444 pc (te_444_0 pc) :=
  (e_Tok2
  (e_Tok2
  (e_Tok2
  (e_Tok2
  (e_Tok2
  (e_Lok (ld_aload_n_0 (x_dk dn_444_0_0_ok 0 rfl)))
  (e_Lok (ld_iload_n_1 (x_dk dn_444_0_0_ok 1 rfl))))
  (e_Tok2
  (e_Lok (lk_12_876 ho_444 (x_dk dn_444_0_0_ok 2 rfl)))
  (e_Lok (e_st (I := eI) (er_ifeq (off := 15) (tg := 20) (x_dk dn_444_0_0_ok 3 rfl) (by decide)) nx_if1))))
  (e_Tok2
  (e_Tok2
  (e_Lok (ld_iload_n_2 (x_dk dn_444_0_0_ok 4 rfl)))
  (e_Lok (e_st (I := eI) (er_i2l (x_dk dn_444_0_0_ok 5 rfl)) (nx_un (fun _ => rfl)))))
  (e_Tok2
  (e_Lok (ps_lconst_0 (x_dk dn_444_0_0_ok 6 rfl)))
  (e_Lok (e_st (I := eI) (er_ldc2 (ix := 750) (z := 2) (v := 2) (x_dk dn_444_0_0_ok 7 rfl) (in_t12 (List.mem_of_getElem? (i := 185) rfl) rfl) (by decide)) (nx_push (Or.inl rfl)))))))
  (e_Tok2
  (e_Tok2
  (e_Tok2
  (e_Lok (lk_12_301 ho_444 (x_dk dn_444_0_0_ok 8 rfl)))
  (e_Lok (e_st (I := eI) (er_ifne (off := 5) (tg := 22) (x_dk dn_444_0_0_ok 9 rfl) (by decide)) nx_if1)))
  (e_Tok2
  (e_Lok (ps_iconst_m1 (x_dk dn_444_0_0_ok 10 rfl)))
  (e_Lok (e_rt (I := eI) (k := 1) ⟨(x_dk dn_444_0_0_ok 11 rfl), rfl⟩))))
  (e_Tok2
  (e_Tok2
  (e_Lok (ld_iload_n_2 (x_dk dn_444_0_0_ok 12 rfl)))
  (e_Lok (e_st (I := eI) (er_ifne (off := 11) (tg := 34) (x_dk dn_444_0_0_ok 13 rfl) (by decide)) nx_if1)))
  (e_Tok2
  (e_Lok (ld_aload_n_0 (x_dk dn_444_0_0_ok 14 rfl)))
  (e_Tok2
  (e_Lok (ld_iload_n_1 (x_dk dn_444_0_0_ok 15 rfl)))
  (e_Lok (lk_12_464 ho_444 (x_dk dn_444_0_0_ok 16 rfl))))))))
  (e_Tok2
  (e_Tok2
  (e_Tok2
  (e_Tok2
  (e_Lok (e_st (I := eI) (er_goto (off := 31) (tg := 62) (x_dk dn_444_0_0_ok 17 rfl) (by decide)) nx_goto))
  (e_Lok (ld_iload_n_2 (x_dk dn_444_0_0_ok 18 rfl))))
  (e_Tok2
  (e_Lok (ps_iconst_1 (x_dk dn_444_0_0_ok 19 rfl)))
  (e_Lok (e_st (I := eI) (er_icmpne (off := 16) (tg := 52) (x_dk dn_444_0_0_ok 20 rfl) (by decide)) nx_if2))))
  (e_Tok2
  (e_Tok2
  (e_Lok (ld_aload_n_0 (x_dk dn_444_0_0_ok 21 rfl)))
  (e_Lok (lk_12_8g ho_444 (x_dk dn_444_0_0_ok 22 rfl))))
  (e_Tok2
  (e_Lok (ps_sipush_160 (x_dk dn_444_0_0_ok 23 rfl)))
  (e_Tok2
  (e_Lok (ld_iload_n_1 (x_dk dn_444_0_0_ok 24 rfl)))
  (e_Lok (sm_iadd (x_dk dn_444_0_1_ok 0 rfl)))))))
  (e_Tok2
  (e_Tok2
  (e_Tok2
  (e_Lok (sm_iaload (x_dk dn_444_0_1_ok 1 rfl)))
  (e_Lok (e_st (I := eI) (er_goto (off := 13) (tg := 62) (x_dk dn_444_0_1_ok 2 rfl) (by decide)) nx_goto)))
  (e_Tok2
  (e_Lok (ld_aload_n_0 (x_dk dn_444_0_1_ok 3 rfl)))
  (e_Lok (lk_12_8g ho_444 (x_dk dn_444_0_1_ok 4 rfl)))))
  (e_Tok2
  (e_Tok2
  (e_Lok (ps_sipush_352 (x_dk dn_444_0_1_ok 5 rfl)))
  (e_Lok (ld_iload_n_1 (x_dk dn_444_0_1_ok 6 rfl))))
  (e_Tok2
  (e_Lok (sm_iadd (x_dk dn_444_0_1_ok 7 rfl)))
  (e_Tok2
  (e_Lok (sm_iaload (x_dk dn_444_0_1_ok 8 rfl)))
  (e_Lok (e_rt (I := eI) (k := 1) ⟨(x_dk dn_444_0_1_ok 9 rfl), rfl⟩))))))))
def te_444 : Nat → eE := te_444_0
theorem te_444_ok : ∀ pc, e_EOq eft cls elay eI n_444 pc (te_444 pc) := te_444_0_ok
theorem ho_445 : (xm_y n_445).cls = "RobotCellHouseModel" := rfl
def dn_445_0_0 : List (Nat × Instr × Nat) := [(0, .iload_n 1, 1), (1, .i2l, 1), (2, .lconst 0, 1), (3, .ldc2_w 367, 3), (6, .invokestatic 301, 3), (9, .ifCond .eq 16, 3), (12, .aload_n 0, 1), (13, .getfield 8, 3), (16, .sipush 20868, 3), (19, .iload_n 1, 1), (20, .iadd, 1), (21, .iaload, 1), (22, .goto 4, 3), (25, .iconst (-1), 1), (26, .ireturn, 1)]
set_option maxRecDepth 20000 in
theorem dn_445_0_0_ok : dn_445_0_0.all (fun q => decide (decode (xm_b n_445) q.1 = .ok (q.2.1, q.2.2))) = true := xa_g_ok (by decide +kernel)
def te_445_0 : Nat → eE := (e_T 12 (e_T 2 (e_T 0 (e_L 0 (0, ei_load 1 0 1, 0, 0)) (e_T 1 (e_L 1 (0, ei_un (fun x => (4, x)) 2, 0, 0)) (e_L 2 (0, ei_push (4, 0) 3, 0, 0)))) (e_T 6 (e_T 3 (e_L 3 (0, ei_push (4, 7) 6, 0, 0)) (e_L 6 (2, e_nof, 266, 3))) (e_T 9 (e_L 9 (0, ei_if1 0 25 12, 0, 0)) (e_L 12 (0, ei_load 0 2 13, 0, 0))))) (e_T 20 (e_T 16 (e_T 13 (e_L 13 (0, ei_getf eft elay 12 0 16, 0, 0)) (e_L 16 (0, ei_push (0, 20868) 19, 0, 0))) (e_T 19 (e_L 19 (0, ei_load 1 0 20, 0, 0)) (e_L 20 (0, ei_bin eF_add 21, 0, 0)))) (e_T 22 (e_T 21 (e_L 21 (0, ei_ald elay false 22, 0, 0)) (e_L 22 (0, ei_goto 26, 0, 0))) (e_T 25 (e_L 25 (0, ei_push (0, (-1)) 26, 0, 0)) (e_L 26 (1, e_nof, 1, 0))))))
set_option maxRecDepth 20000 in
set_option maxHeartbeats 4000000 in
theorem te_445_0_ok : ∀ pc, e_EOq eft cls elay eI n_445 pc (te_445_0 pc) :=
  (e_Tok2
  (e_Tok2
  (e_Tok2
  (e_Lok (ld_iload_n_1 (x_dk dn_445_0_0_ok 0 rfl)))
  (e_Tok2
  (e_Lok (e_st (I := eI) (er_i2l (x_dk dn_445_0_0_ok 1 rfl)) (nx_un (fun _ => rfl))))
  (e_Lok (ps_lconst_0 (x_dk dn_445_0_0_ok 2 rfl)))))
  (e_Tok2
  (e_Tok2
  (e_Lok (e_st (I := eI) (er_ldc2 (ix := 367) (z := 7) (v := 7) (x_dk dn_445_0_0_ok 3 rfl) (in_t11 (List.mem_of_getElem? (i := 120) rfl) rfl) (by decide)) (nx_push (Or.inl rfl))))
  (e_Lok (lk_12_301 ho_445 (x_dk dn_445_0_0_ok 4 rfl))))
  (e_Tok2
  (e_Lok (e_st (I := eI) (er_ifeq (off := 16) (tg := 25) (x_dk dn_445_0_0_ok 5 rfl) (by decide)) nx_if1))
  (e_Lok (ld_aload_n_0 (x_dk dn_445_0_0_ok 6 rfl))))))
  (e_Tok2
  (e_Tok2
  (e_Tok2
  (e_Lok (lk_12_8g ho_445 (x_dk dn_445_0_0_ok 7 rfl)))
  (e_Lok (ps_sipush_20868 (x_dk dn_445_0_0_ok 8 rfl))))
  (e_Tok2
  (e_Lok (ld_iload_n_1 (x_dk dn_445_0_0_ok 9 rfl)))
  (e_Lok (sm_iadd (x_dk dn_445_0_0_ok 10 rfl)))))
  (e_Tok2
  (e_Tok2
  (e_Lok (sm_iaload (x_dk dn_445_0_0_ok 11 rfl)))
  (e_Lok (e_st (I := eI) (er_goto (off := 4) (tg := 26) (x_dk dn_445_0_0_ok 12 rfl) (by decide)) nx_goto)))
  (e_Tok2
  (e_Lok (ps_iconst_m1 (x_dk dn_445_0_0_ok 13 rfl)))
  (e_Lok (e_rt (I := eI) (k := 1) ⟨(x_dk dn_445_0_0_ok 14 rfl), rfl⟩))))))
def te_445 : Nat → eE := te_445_0
theorem te_445_ok : ∀ pc, e_EOq eft cls elay eI n_445 pc (te_445 pc) := te_445_0_ok
theorem ho_446 : (xm_y n_446).cls = "RobotCellHouseModel" := rfl
def dn_446_0_0 : List (Nat × Instr × Nat) := [(0, .iload_n 1, 1), (1, .i2l, 1), (2, .lconst 0, 1), (3, .aload_n 0, 1), (4, .getfield 279, 3), (7, .iconst 1, 1), (8, .isub, 1), (9, .i2l, 1), (10, .invokestatic 301, 3), (13, .ifCond .eq 15, 3), (16, .iload_n 2, 1), (17, .i2l, 1), (18, .lconst 0, 1), (19, .ldc2_w 348, 3), (22, .invokestatic 301, 3), (25, .ifCond .ne 5, 3), (28, .iconst (-1), 1), (29, .ireturn, 1), (30, .iload_n 2, 1), (31, .ifCond .eq 8, 3), (34, .iload_n 2, 1), (35, .iconst 3, 1), (36, .if_icmp .ne 17, 3), (39, .aload_n 0, 1), (40, .getfield 8, 3)]
set_option maxRecDepth 20000 in
theorem dn_446_0_0_ok : dn_446_0_0.all (fun q => decide (decode (xm_b n_446) q.1 = .ok (q.2.1, q.2.2))) = true := xa_g_ok (by decide +kernel)
def dn_446_0_1 : List (Nat × Instr × Nat) := [(43, .iload_n 1, 1), (44, .invokestatic 774, 3), (47, .iload_n 2, 1), (48, .iadd, 1), (49, .iaload, 1), (50, .goto 11, 3), (53, .aload_n 0, 1), (54, .iload_n 1, 1), (55, .iload_n 2, 1), (56, .iconst 1, 1), (57, .isub, 1), (58, .invokevirtual 777, 3), (61, .ireturn, 1)]
set_option maxRecDepth 20000 in
theorem dn_446_0_1_ok : dn_446_0_1.all (fun q => decide (decode (xm_b n_446) q.1 = .ok (q.2.1, q.2.2))) = true := xa_g_ok (by decide +kernel)
def te_446_0 : Nat → eE := (e_T 30 (e_T 10 (e_T 3 (e_T 1 (e_T 0 (e_L 0 (0, ei_load 1 0 1, 0, 0)) (e_L 1 (0, ei_un (fun x => (4, x)) 2, 0, 0))) (e_T 2 (e_L 2 (0, ei_push (4, 0) 3, 0, 0)) (e_L 3 (0, ei_load 0 2 4, 0, 0)))) (e_T 7 (e_T 4 (e_L 4 (0, ei_getf eft elay 12 40 7, 0, 0)) (e_L 7 (0, ei_push (0, 1) 8, 0, 0))) (e_T 8 (e_L 8 (0, ei_bin eF_sub 9, 0, 0)) (e_T 9 (e_L 9 (0, ei_un (fun x => (4, x)) 10, 0, 0)) (e_L 10 (2, e_nof, 266, 3)))))) (e_T 19 (e_T 16 (e_T 13 (e_L 13 (0, ei_if1 0 28 16, 0, 0)) (e_L 16 (0, ei_load 2 0 17, 0, 0))) (e_T 17 (e_L 17 (0, ei_un (fun x => (4, x)) 18, 0, 0)) (e_T 18 (e_L 18 (0, ei_push (4, 0) 19, 0, 0)) (e_L 19 (0, ei_push (4, 3) 22, 0, 0))))) (e_T 25 (e_T 22 (e_L 22 (2, e_nof, 266, 3)) (e_L 25 (0, ei_if1 1 30 28, 0, 0))) (e_T 28 (e_L 28 (0, ei_push (0, (-1)) 29, 0, 0)) (e_T 29 (e_L 29 (1, e_nof, 1, 0)) (e_L 30 (0, ei_load 2 0 31, 0, 0))))))) (e_T 47 (e_T 36 (e_T 34 (e_T 31 (e_L 31 (0, ei_if1 0 39 34, 0, 0)) (e_L 34 (0, ei_load 2 0 35, 0, 0))) (e_T 35 (e_L 35 (0, ei_push (0, 3) 36, 0, 0)) (e_L 36 (0, ei_if2 1 53 39, 0, 0)))) (e_T 40 (e_T 39 (e_L 39 (0, ei_load 0 2 40, 0, 0)) (e_L 40 (0, ei_getf eft elay 12 0 43, 0, 0))) (e_T 43 (e_L 43 (0, ei_load 1 0 44, 0, 0)) (e_T 44 (e_L 44 (2, e_nof, 392, 1)) (e_L 47 (0, ei_load 2 0 48, 0, 0)))))) (e_T 54 (e_T 49 (e_T 48 (e_L 48 (0, ei_bin eF_add 49, 0, 0)) (e_L 49 (0, ei_ald elay false 50, 0, 0))) (e_T 50 (e_L 50 (0, ei_goto 61, 0, 0)) (e_T 53 (e_L 53 (0, ei_load 0 2 54, 0, 0)) (e_L 54 (0, ei_load 1 0 55, 0, 0))))) (e_T 56 (e_T 55 (e_L 55 (0, ei_load 2 0 56, 0, 0)) (e_L 56 (0, ei_push (0, 1) 57, 0, 0))) (e_T 57 (e_L 57 (0, ei_bin eF_sub 58, 0, 0)) (e_T 58 (e_L 58 (2, e_nof, 395, 3)) (e_L 61 (1, e_nof, 1, 0))))))))
set_option maxRecDepth 20000 in
set_option maxHeartbeats 4000000 in
theorem te_446_0_ok : ∀ pc, e_EOq eft cls elay eI n_446 pc (te_446_0 pc) :=
  (e_Tok2
  (e_Tok2
  (e_Tok2
  (e_Tok2
  (e_Tok2
  (e_Lok (ld_iload_n_1 (x_dk dn_446_0_0_ok 0 rfl)))
  (e_Lok (e_st (I := eI) (er_i2l (x_dk dn_446_0_0_ok 1 rfl)) (nx_un (fun _ => rfl)))))
  (e_Tok2
  (e_Lok (ps_lconst_0 (x_dk dn_446_0_0_ok 2 rfl)))
  (e_Lok (ld_aload_n_0 (x_dk dn_446_0_0_ok 3 rfl)))))
  (e_Tok2
  (e_Tok2
  (e_Lok (lk_12_279g ho_446 (x_dk dn_446_0_0_ok 4 rfl)))
  (e_Lok (ps_iconst_1 (x_dk dn_446_0_0_ok 5 rfl))))
  (e_Tok2
  (e_Lok (sm_isub (x_dk dn_446_0_0_ok 6 rfl)))
  (e_Tok2
  (e_Lok (e_st (I := eI) (er_i2l (x_dk dn_446_0_0_ok 7 rfl)) (nx_un (fun _ => rfl))))
  (e_Lok (lk_12_301 ho_446 (x_dk dn_446_0_0_ok 8 rfl)))))))
  (e_Tok2
  (e_Tok2
  (e_Tok2
  (e_Lok (e_st (I := eI) (er_ifeq (off := 15) (tg := 28) (x_dk dn_446_0_0_ok 9 rfl) (by decide)) nx_if1))
  (e_Lok (ld_iload_n_2 (x_dk dn_446_0_0_ok 10 rfl))))
  (e_Tok2
  (e_Lok (e_st (I := eI) (er_i2l (x_dk dn_446_0_0_ok 11 rfl)) (nx_un (fun _ => rfl))))
  (e_Tok2
  (e_Lok (ps_lconst_0 (x_dk dn_446_0_0_ok 12 rfl)))
  (e_Lok (e_st (I := eI) (er_ldc2 (ix := 348) (z := 3) (v := 3) (x_dk dn_446_0_0_ok 13 rfl) (in_t11 (List.mem_of_getElem? (i := 71) rfl) rfl) (by decide)) (nx_push (Or.inl rfl)))))))
  (e_Tok2
  (e_Tok2
  (e_Lok (lk_12_301 ho_446 (x_dk dn_446_0_0_ok 14 rfl)))
  (e_Lok (e_st (I := eI) (er_ifne (off := 5) (tg := 30) (x_dk dn_446_0_0_ok 15 rfl) (by decide)) nx_if1)))
  (e_Tok2
  (e_Lok (ps_iconst_m1 (x_dk dn_446_0_0_ok 16 rfl)))
  (e_Tok2
  (e_Lok (e_rt (I := eI) (k := 1) ⟨(x_dk dn_446_0_0_ok 17 rfl), rfl⟩))
  (e_Lok (ld_iload_n_2 (x_dk dn_446_0_0_ok 18 rfl))))))))
  (e_Tok2
  (e_Tok2
  (e_Tok2
  (e_Tok2
  (e_Lok (e_st (I := eI) (er_ifeq (off := 8) (tg := 39) (x_dk dn_446_0_0_ok 19 rfl) (by decide)) nx_if1))
  (e_Lok (ld_iload_n_2 (x_dk dn_446_0_0_ok 20 rfl))))
  (e_Tok2
  (e_Lok (ps_iconst_3 (x_dk dn_446_0_0_ok 21 rfl)))
  (e_Lok (e_st (I := eI) (er_icmpne (off := 17) (tg := 53) (x_dk dn_446_0_0_ok 22 rfl) (by decide)) nx_if2))))
  (e_Tok2
  (e_Tok2
  (e_Lok (ld_aload_n_0 (x_dk dn_446_0_0_ok 23 rfl)))
  (e_Lok (lk_12_8g ho_446 (x_dk dn_446_0_0_ok 24 rfl))))
  (e_Tok2
  (e_Lok (ld_iload_n_1 (x_dk dn_446_0_1_ok 0 rfl)))
  (e_Tok2
  (e_Lok (lk_12_774 ho_446 (x_dk dn_446_0_1_ok 1 rfl)))
  (e_Lok (ld_iload_n_2 (x_dk dn_446_0_1_ok 2 rfl)))))))
  (e_Tok2
  (e_Tok2
  (e_Tok2
  (e_Lok (sm_iadd (x_dk dn_446_0_1_ok 3 rfl)))
  (e_Lok (sm_iaload (x_dk dn_446_0_1_ok 4 rfl))))
  (e_Tok2
  (e_Lok (e_st (I := eI) (er_goto (off := 11) (tg := 61) (x_dk dn_446_0_1_ok 5 rfl) (by decide)) nx_goto))
  (e_Tok2
  (e_Lok (ld_aload_n_0 (x_dk dn_446_0_1_ok 6 rfl)))
  (e_Lok (ld_iload_n_1 (x_dk dn_446_0_1_ok 7 rfl))))))
  (e_Tok2
  (e_Tok2
  (e_Lok (ld_iload_n_2 (x_dk dn_446_0_1_ok 8 rfl)))
  (e_Lok (ps_iconst_1 (x_dk dn_446_0_1_ok 9 rfl))))
  (e_Tok2
  (e_Lok (sm_isub (x_dk dn_446_0_1_ok 10 rfl)))
  (e_Tok2
  (e_Lok (lk_12_777 ho_446 (x_dk dn_446_0_1_ok 11 rfl)))
  (e_Lok (e_rt (I := eI) (k := 1) ⟨(x_dk dn_446_0_1_ok 12 rfl), rfl⟩))))))))
def te_446 : Nat → eE := te_446_0
theorem te_446_ok : ∀ pc, e_EOq eft cls elay eI n_446 pc (te_446 pc) := te_446_0_ok
theorem ho_447 : (xm_y n_447).cls = "RobotCellHouseModel" := rfl
def dn_447_0_0 : List (Nat × Instr × Nat) := [(0, .iload_n 1, 1), (1, .i2l, 1), (2, .lconst 0, 1), (3, .iconst 3, 1), (4, .aload_n 0, 1), (5, .getfield 285, 3), (8, .iadd, 1), (9, .i2l, 1), (10, .invokestatic 301, 3), (13, .ifCond .ne 5, 3), (16, .iconst (-1), 1), (17, .ireturn, 1), (18, .iload_n 1, 1), (19, .iconst 3, 1), (20, .if_icmp .le 43, 3), (23, .aload_n 0, 1), (24, .getfield 8, 3), (27, .sipush 20836, 3), (30, .iconst 4, 1), (31, .iload_n 1, 1), (32, .iconst 4, 1), (33, .isub, 1), (34, .imul, 1), (35, .iadd, 1), (36, .iconst 3, 1)]
set_option maxRecDepth 20000 in
theorem dn_447_0_0_ok : dn_447_0_0.all (fun q => decide (decode (xm_b n_447) q.1 = .ok (q.2.1, q.2.2))) = true := xa_g_ok (by decide +kernel)
def dn_447_0_1 : List (Nat × Instr × Nat) := [(37, .iadd, 1), (38, .iaload, 1), (39, .iconst 1, 1), (40, .if_icmp .ne 7, 3), (43, .iconst 2, 1), (44, .goto 18, 3), (47, .aload_n 0, 1), (48, .iload_n 1, 1), (49, .iconst 4, 1), (50, .isub, 1), (51, .invokevirtual 780, 3), (54, .ifCond .eq 7, 3), (57, .iconst 1, 1), (58, .goto 4, 3), (61, .iconst 0, 1), (62, .ireturn, 1), (63, .aload_n 0, 1), (64, .getfield 8, 3), (67, .iload_n 1, 1), (68, .ifCond .ne 7, 3), (71, .iconst 1, 1), (72, .goto 22, 3), (75, .iload_n 1, 1), (76, .iconst 1, 1), (77, .if_icmp .ne 7, 3)]
set_option maxRecDepth 20000 in
theorem dn_447_0_1_ok : dn_447_0_1.all (fun q => decide (decode (xm_b n_447) q.1 = .ok (q.2.1, q.2.2))) = true := xa_g_ok (by decide +kernel)
def dn_447_0_2 : List (Nat × Instr × Nat) := [(80, .iconst 2, 1), (81, .goto 13, 3), (84, .iload_n 1, 1), (85, .iconst 2, 1), (86, .if_icmp .ne 7, 3), (89, .iconst 3, 1), (90, .goto 4, 3), (93, .iconst 4, 1), (94, .iaload, 1), (95, .ireturn, 1)]
set_option maxRecDepth 20000 in
theorem dn_447_0_2_ok : dn_447_0_2.all (fun q => decide (decode (xm_b n_447) q.1 = .ok (q.2.1, q.2.2))) = true := xa_g_ok (by decide +kernel)
def te_447_0 : Nat → eE := (e_T 20 (e_T 8 (e_T 2 (e_T 0 (e_L 0 (0, ei_load 1 0 1, 0, 0)) (e_T 1 (e_L 1 (0, ei_un (fun x => (4, x)) 2, 0, 0)) (e_L 2 (0, ei_push (4, 0) 3, 0, 0)))) (e_T 4 (e_T 3 (e_L 3 (0, ei_push (0, 3) 4, 0, 0)) (e_L 4 (0, ei_load 0 2 5, 0, 0))) (e_T 5 (e_L 5 (0, ei_getf eft elay 12 49 8, 0, 0)) (e_L 8 (0, ei_bin eF_add 9, 0, 0))))) (e_T 16 (e_T 10 (e_T 9 (e_L 9 (0, ei_un (fun x => (4, x)) 10, 0, 0)) (e_L 10 (2, e_nof, 266, 3))) (e_T 13 (e_L 13 (0, ei_if1 1 18 16, 0, 0)) (e_L 16 (0, ei_push (0, (-1)) 17, 0, 0)))) (e_T 18 (e_T 17 (e_L 17 (1, e_nof, 1, 0)) (e_L 18 (0, ei_load 1 0 19, 0, 0))) (e_T 19 (e_L 19 (0, ei_push (0, 3) 20, 0, 0)) (e_L 20 (0, ei_if2 5 63 23, 0, 0)))))) (e_T 33 (e_T 27 (e_T 23 (e_L 23 (0, ei_load 0 2 24, 0, 0)) (e_T 24 (e_L 24 (0, ei_getf eft elay 12 0 27, 0, 0)) (e_L 27 (0, ei_push (0, 20836) 30, 0, 0)))) (e_T 31 (e_T 30 (e_L 30 (0, ei_push (0, 4) 31, 0, 0)) (e_L 31 (0, ei_load 1 0 32, 0, 0))) (e_T 32 (e_L 32 (0, ei_push (0, 4) 33, 0, 0)) (e_L 33 (0, ei_bin eF_sub 34, 0, 0))))) (e_T 37 (e_T 35 (e_T 34 (e_L 34 (0, ei_bin eF_mul 35, 0, 0)) (e_L 35 (0, ei_bin eF_add 36, 0, 0))) (e_T 36 (e_L 36 (0, ei_push (0, 3) 37, 0, 0)) (e_L 37 (0, ei_bin eF_add 38, 0, 0)))) (e_T 39 (e_T 38 (e_L 38 (0, ei_ald elay false 39, 0, 0)) (e_L 39 (0, ei_push (0, 1) 40, 0, 0))) (e_T 40 (e_L 40 (0, ei_if2 1 47 43, 0, 0)) (e_L 43 (0, ei_push (0, 2) 44, 0, 0)))))))
set_option maxRecDepth 20000 in
set_option maxHeartbeats 4000000 in
theorem te_447_0_ok : ∀ pc, e_EOq eft cls elay eI n_447 pc (te_447_0 pc) :=
  (e_Tok2
  (e_Tok2
  (e_Tok2
  (e_Tok2
  (e_Lok (ld_iload_n_1 (x_dk dn_447_0_0_ok 0 rfl)))
  (e_Tok2
  (e_Lok (e_st (I := eI) (er_i2l (x_dk dn_447_0_0_ok 1 rfl)) (nx_un (fun _ => rfl))))
  (e_Lok (ps_lconst_0 (x_dk dn_447_0_0_ok 2 rfl)))))
  (e_Tok2
  (e_Tok2
  (e_Lok (ps_iconst_3 (x_dk dn_447_0_0_ok 3 rfl)))
  (e_Lok (ld_aload_n_0 (x_dk dn_447_0_0_ok 4 rfl))))
  (e_Tok2
  (e_Lok (lk_12_285g ho_447 (x_dk dn_447_0_0_ok 5 rfl)))
  (e_Lok (sm_iadd (x_dk dn_447_0_0_ok 6 rfl))))))
  (e_Tok2
  (e_Tok2
  (e_Tok2
  (e_Lok (e_st (I := eI) (er_i2l (x_dk dn_447_0_0_ok 7 rfl)) (nx_un (fun _ => rfl))))
  (e_Lok (lk_12_301 ho_447 (x_dk dn_447_0_0_ok 8 rfl))))
  (e_Tok2
  (e_Lok (e_st (I := eI) (er_ifne (off := 5) (tg := 18) (x_dk dn_447_0_0_ok 9 rfl) (by decide)) nx_if1))
  (e_Lok (ps_iconst_m1 (x_dk dn_447_0_0_ok 10 rfl)))))
  (e_Tok2
  (e_Tok2
  (e_Lok (e_rt (I := eI) (k := 1) ⟨(x_dk dn_447_0_0_ok 11 rfl), rfl⟩))
  (e_Lok (ld_iload_n_1 (x_dk dn_447_0_0_ok 12 rfl))))
  (e_Tok2
  (e_Lok (ps_iconst_3 (x_dk dn_447_0_0_ok 13 rfl)))
  (e_Lok (e_st (I := eI) (er_icmple (off := 43) (tg := 63) (x_dk dn_447_0_0_ok 14 rfl) (by decide)) nx_if2))))))
  (e_Tok2
  (e_Tok2
  (e_Tok2
  (e_Lok (ld_aload_n_0 (x_dk dn_447_0_0_ok 15 rfl)))
  (e_Tok2
  (e_Lok (lk_12_8g ho_447 (x_dk dn_447_0_0_ok 16 rfl)))
  (e_Lok (ps_sipush_20836 (x_dk dn_447_0_0_ok 17 rfl)))))
  (e_Tok2
  (e_Tok2
  (e_Lok (ps_iconst_4 (x_dk dn_447_0_0_ok 18 rfl)))
  (e_Lok (ld_iload_n_1 (x_dk dn_447_0_0_ok 19 rfl))))
  (e_Tok2
  (e_Lok (ps_iconst_4 (x_dk dn_447_0_0_ok 20 rfl)))
  (e_Lok (sm_isub (x_dk dn_447_0_0_ok 21 rfl))))))
  (e_Tok2
  (e_Tok2
  (e_Tok2
  (e_Lok (sm_imul (x_dk dn_447_0_0_ok 22 rfl)))
  (e_Lok (sm_iadd (x_dk dn_447_0_0_ok 23 rfl))))
  (e_Tok2
  (e_Lok (ps_iconst_3 (x_dk dn_447_0_0_ok 24 rfl)))
  (e_Lok (sm_iadd (x_dk dn_447_0_1_ok 0 rfl)))))
  (e_Tok2
  (e_Tok2
  (e_Lok (sm_iaload (x_dk dn_447_0_1_ok 1 rfl)))
  (e_Lok (ps_iconst_1 (x_dk dn_447_0_1_ok 2 rfl))))
  (e_Tok2
  (e_Lok (e_st (I := eI) (er_icmpne (off := 7) (tg := 47) (x_dk dn_447_0_1_ok 3 rfl) (by decide)) nx_if2))
  (e_Lok (ps_iconst_2 (x_dk dn_447_0_1_ok 4 rfl))))))))
def te_447_30 : Nat → eE := (e_T 68 (e_T 54 (e_T 48 (e_T 44 (e_L 44 (0, ei_goto 62, 0, 0)) (e_T 47 (e_L 47 (0, ei_load 0 2 48, 0, 0)) (e_L 48 (0, ei_load 1 0 49, 0, 0)))) (e_T 50 (e_T 49 (e_L 49 (0, ei_push (0, 4) 50, 0, 0)) (e_L 50 (0, ei_bin eF_sub 51, 0, 0))) (e_T 51 (e_L 51 (2, e_nof, 399, 2)) (e_L 54 (0, ei_if1 0 61 57, 0, 0))))) (e_T 62 (e_T 58 (e_T 57 (e_L 57 (0, ei_push (0, 1) 58, 0, 0)) (e_L 58 (0, ei_goto 62, 0, 0))) (e_T 61 (e_L 61 (0, ei_push (0, 0) 62, 0, 0)) (e_L 62 (1, e_nof, 1, 0)))) (e_T 64 (e_T 63 (e_L 63 (0, ei_load 0 2 64, 0, 0)) (e_L 64 (0, ei_getf eft elay 12 0 67, 0, 0))) (e_T 67 (e_L 67 (0, ei_load 1 0 68, 0, 0)) (e_L 68 (0, ei_if1 1 75 71, 0, 0)))))) (e_T 81 (e_T 75 (e_T 71 (e_L 71 (0, ei_push (0, 1) 72, 0, 0)) (e_T 72 (e_L 72 (0, ei_goto 94, 0, 0)) (e_L 75 (0, ei_load 1 0 76, 0, 0)))) (e_T 77 (e_T 76 (e_L 76 (0, ei_push (0, 1) 77, 0, 0)) (e_L 77 (0, ei_if2 1 84 80, 0, 0))) (e_T 80 (e_L 80 (0, ei_push (0, 2) 81, 0, 0)) (e_L 81 (0, ei_goto 94, 0, 0))))) (e_T 89 (e_T 85 (e_T 84 (e_L 84 (0, ei_load 1 0 85, 0, 0)) (e_L 85 (0, ei_push (0, 2) 86, 0, 0))) (e_T 86 (e_L 86 (0, ei_if2 1 93 89, 0, 0)) (e_L 89 (0, ei_push (0, 3) 90, 0, 0)))) (e_T 93 (e_T 90 (e_L 90 (0, ei_goto 94, 0, 0)) (e_L 93 (0, ei_push (0, 4) 94, 0, 0))) (e_T 94 (e_L 94 (0, ei_ald elay false 95, 0, 0)) (e_L 95 (1, e_nof, 1, 0)))))))
set_option maxRecDepth 20000 in
set_option maxHeartbeats 4000000 in
theorem te_447_30_ok : ∀ pc, e_EOq eft cls elay eI n_447 pc (te_447_30 pc) :=
  (e_Tok2
  (e_Tok2
  (e_Tok2
  (e_Tok2
  (e_Lok (e_st (I := eI) (er_goto (off := 18) (tg := 62) (x_dk dn_447_0_1_ok 5 rfl) (by decide)) nx_goto))
  (e_Tok2
  (e_Lok (ld_aload_n_0 (x_dk dn_447_0_1_ok 6 rfl)))
  (e_Lok (ld_iload_n_1 (x_dk dn_447_0_1_ok 7 rfl)))))
  (e_Tok2
  (e_Tok2
  (e_Lok (ps_iconst_4 (x_dk dn_447_0_1_ok 8 rfl)))
  (e_Lok (sm_isub (x_dk dn_447_0_1_ok 9 rfl))))
  (e_Tok2
  (e_Lok (lk_12_780 ho_447 (x_dk dn_447_0_1_ok 10 rfl)))
  (e_Lok (e_st (I := eI) (er_ifeq (off := 7) (tg := 61) (x_dk dn_447_0_1_ok 11 rfl) (by decide)) nx_if1)))))
  (e_Tok2
  (e_Tok2
  (e_Tok2
  (e_Lok (ps_iconst_1 (x_dk dn_447_0_1_ok 12 rfl)))
  (e_Lok (e_st (I := eI) (er_goto (off := 4) (tg := 62) (x_dk dn_447_0_1_ok 13 rfl) (by decide)) nx_goto)))
  (e_Tok2
  (e_Lok (ps_iconst_0 (x_dk dn_447_0_1_ok 14 rfl)))
  (e_Lok (e_rt (I := eI) (k := 1) ⟨(x_dk dn_447_0_1_ok 15 rfl), rfl⟩))))
  (e_Tok2
  (e_Tok2
  (e_Lok (ld_aload_n_0 (x_dk dn_447_0_1_ok 16 rfl)))
  (e_Lok (lk_12_8g ho_447 (x_dk dn_447_0_1_ok 17 rfl))))
  (e_Tok2
  (e_Lok (ld_iload_n_1 (x_dk dn_447_0_1_ok 18 rfl)))
  (e_Lok (e_st (I := eI) (er_ifne (off := 7) (tg := 75) (x_dk dn_447_0_1_ok 19 rfl) (by decide)) nx_if1))))))
  (e_Tok2
  (e_Tok2
  (e_Tok2
  (e_Lok (ps_iconst_1 (x_dk dn_447_0_1_ok 20 rfl)))
  (e_Tok2
  (e_Lok (e_st (I := eI) (er_goto (off := 22) (tg := 94) (x_dk dn_447_0_1_ok 21 rfl) (by decide)) nx_goto))
  (e_Lok (ld_iload_n_1 (x_dk dn_447_0_1_ok 22 rfl)))))
  (e_Tok2
  (e_Tok2
  (e_Lok (ps_iconst_1 (x_dk dn_447_0_1_ok 23 rfl)))
  (e_Lok (e_st (I := eI) (er_icmpne (off := 7) (tg := 84) (x_dk dn_447_0_1_ok 24 rfl) (by decide)) nx_if2)))
  (e_Tok2
  (e_Lok (ps_iconst_2 (x_dk dn_447_0_2_ok 0 rfl)))
  (e_Lok (e_st (I := eI) (er_goto (off := 13) (tg := 94) (x_dk dn_447_0_2_ok 1 rfl) (by decide)) nx_goto)))))
  (e_Tok2
  (e_Tok2
  (e_Tok2
  (e_Lok (ld_iload_n_1 (x_dk dn_447_0_2_ok 2 rfl)))
  (e_Lok (ps_iconst_2 (x_dk dn_447_0_2_ok 3 rfl))))
  (e_Tok2
  (e_Lok (e_st (I := eI) (er_icmpne (off := 7) (tg := 93) (x_dk dn_447_0_2_ok 4 rfl) (by decide)) nx_if2))
  (e_Lok (ps_iconst_3 (x_dk dn_447_0_2_ok 5 rfl)))))
  (e_Tok2
  (e_Tok2
  (e_Lok (e_st (I := eI) (er_goto (off := 4) (tg := 94) (x_dk dn_447_0_2_ok 6 rfl) (by decide)) nx_goto))
  (e_Lok (ps_iconst_4 (x_dk dn_447_0_2_ok 7 rfl))))
  (e_Tok2
  (e_Lok (sm_iaload (x_dk dn_447_0_2_ok 8 rfl)))
  (e_Lok (e_rt (I := eI) (k := 1) ⟨(x_dk dn_447_0_2_ok 9 rfl), rfl⟩)))))))
def te_447 : Nat → eE := (e_T 43 te_447_0 te_447_30)
theorem te_447_ok : ∀ pc, e_EOq eft cls elay eI n_447 pc (te_447 pc) := (e_Tok2 (te_447_0_ok) (te_447_30_ok))
theorem ho_448 : (xm_y n_448).cls = "RobotCellHouseModel" := rfl
def dn_448_0_0 : List (Nat × Instr × Nat) := [(0, .aload_n 0, 1), (1, .getfield 8, 3), (4, .iconst 5, 1), (5, .iaload, 1), (6, .ireturn, 1)]
set_option maxRecDepth 20000 in
theorem dn_448_0_0_ok : dn_448_0_0.all (fun q => decide (decode (xm_b n_448) q.1 = .ok (q.2.1, q.2.2))) = true := xa_g_ok (by decide +kernel)
def te_448_0 : Nat → eE := (e_T 1 (e_T 0 (e_L 0 (0, ei_load 0 2 1, 0, 0)) (e_L 1 (0, ei_getf eft elay 12 0 4, 0, 0))) (e_T 4 (e_L 4 (0, ei_push (0, 5) 5, 0, 0)) (e_T 5 (e_L 5 (0, ei_ald elay false 6, 0, 0)) (e_L 6 (1, e_nof, 1, 0)))))
set_option maxRecDepth 20000 in
set_option maxHeartbeats 4000000 in
theorem te_448_0_ok : ∀ pc, e_EOq eft cls elay eI n_448 pc (te_448_0 pc) :=
  (e_Tok2
  (e_Tok2
  (e_Lok (ld_aload_n_0 (x_dk dn_448_0_0_ok 0 rfl)))
  (e_Lok (lk_12_8g ho_448 (x_dk dn_448_0_0_ok 1 rfl))))
  (e_Tok2
  (e_Lok (ps_iconst_5 (x_dk dn_448_0_0_ok 2 rfl)))
  (e_Tok2
  (e_Lok (sm_iaload (x_dk dn_448_0_0_ok 3 rfl)))
  (e_Lok (e_rt (I := eI) (k := 1) ⟨(x_dk dn_448_0_0_ok 4 rfl), rfl⟩)))))
def te_448 : Nat → eE := te_448_0
theorem te_448_ok : ∀ pc, e_EOq eft cls elay eI n_448 pc (te_448 pc) := te_448_0_ok
theorem ho_449 : (xm_y n_449).cls = "RobotCellHouseModel" := rfl
def dn_449_0_0 : List (Nat × Instr × Nat) := [(0, .iload_n 1, 1), (1, .i2l, 1), (2, .lconst 0, 1), (3, .aload_n 0, 1), (4, .getfield 8, 3), (7, .iconst 5, 1), (8, .iaload, 1), (9, .sipush 2000, 3), (12, .if_icmp .ge 12, 3), (15, .aload_n 0, 1), (16, .getfield 8, 3), (19, .iconst 5, 1), (20, .iaload, 1), (21, .goto 6, 3), (24, .sipush 2000, 3), (27, .iconst 1, 1), (28, .isub, 1), (29, .i2l, 1), (30, .invokestatic 301, 3), (33, .ifCond .eq 32, 3), (36, .iload_n 2, 1), (37, .i2l, 1), (38, .lconst 0, 1), (39, .ldc2_w 348, 3), (42, .invokestatic 301, 3)]
set_option maxRecDepth 20000 in
theorem dn_449_0_0_ok : dn_449_0_0.all (fun q => decide (decode (xm_b n_449) q.1 = .ok (q.2.1, q.2.2))) = true := xa_g_ok (by decide +kernel)
def dn_449_0_1 : List (Nat × Instr × Nat) := [(45, .ifCond .eq 20, 3), (48, .aload_n 0, 1), (49, .getfield 8, 3), (52, .sipush 25060, 3), (55, .iconst 4, 1), (56, .iload_n 1, 1), (57, .imul, 1), (58, .iadd, 1), (59, .iload_n 2, 1), (60, .iadd, 1), (61, .iaload, 1), (62, .goto 4, 3), (65, .iconst (-1), 1), (66, .ireturn, 1)]
set_option maxRecDepth 20000 in
theorem dn_449_0_1_ok : dn_449_0_1.all (fun q => decide (decode (xm_b n_449) q.1 = .ok (q.2.1, q.2.2))) = true := xa_g_ok (by decide +kernel)
def te_449_0 : Nat → eE := (e_T 30 (e_T 12 (e_T 3 (e_T 1 (e_T 0 (e_L 0 (0, ei_load 1 0 1, 0, 0)) (e_L 1 (0, ei_un (fun x => (4, x)) 2, 0, 0))) (e_T 2 (e_L 2 (0, ei_push (4, 0) 3, 0, 0)) (e_L 3 (0, ei_load 0 2 4, 0, 0)))) (e_T 7 (e_T 4 (e_L 4 (0, ei_getf eft elay 12 0 7, 0, 0)) (e_L 7 (0, ei_push (0, 5) 8, 0, 0))) (e_T 8 (e_L 8 (0, ei_ald elay false 9, 0, 0)) (e_T 9 (e_L 9 (0, ei_push (0, 2000) 12, 0, 0)) (e_L 12 (0, ei_if2 3 24 15, 0, 0)))))) (e_T 21 (e_T 16 (e_T 15 (e_L 15 (0, ei_load 0 2 16, 0, 0)) (e_L 16 (0, ei_getf eft elay 12 0 19, 0, 0))) (e_T 19 (e_L 19 (0, ei_push (0, 5) 20, 0, 0)) (e_T 20 (e_L 20 (0, ei_ald elay false 21, 0, 0)) (e_L 21 (0, ei_goto 27, 0, 0))))) (e_T 27 (e_T 24 (e_L 24 (0, ei_push (0, 2000) 27, 0, 0)) (e_L 27 (0, ei_push (0, 1) 28, 0, 0))) (e_T 28 (e_L 28 (0, ei_bin eF_sub 29, 0, 0)) (e_T 29 (e_L 29 (0, ei_un (fun x => (4, x)) 30, 0, 0)) (e_L 30 (2, e_nof, 266, 3))))))) (e_T 52 (e_T 39 (e_T 36 (e_T 33 (e_L 33 (0, ei_if1 0 65 36, 0, 0)) (e_L 36 (0, ei_load 2 0 37, 0, 0))) (e_T 37 (e_L 37 (0, ei_un (fun x => (4, x)) 38, 0, 0)) (e_T 38 (e_L 38 (0, ei_push (4, 0) 39, 0, 0)) (e_L 39 (0, ei_push (4, 3) 42, 0, 0))))) (e_T 45 (e_T 42 (e_L 42 (2, e_nof, 266, 3)) (e_L 45 (0, ei_if1 0 65 48, 0, 0))) (e_T 48 (e_L 48 (0, ei_load 0 2 49, 0, 0)) (e_T 49 (e_L 49 (0, ei_getf eft elay 12 0 52, 0, 0)) (e_L 52 (0, ei_push (0, 25060) 55, 0, 0)))))) (e_T 59 (e_T 56 (e_T 55 (e_L 55 (0, ei_push (0, 4) 56, 0, 0)) (e_L 56 (0, ei_load 1 0 57, 0, 0))) (e_T 57 (e_L 57 (0, ei_bin eF_mul 58, 0, 0)) (e_T 58 (e_L 58 (0, ei_bin eF_add 59, 0, 0)) (e_L 59 (0, ei_load 2 0 60, 0, 0))))) (e_T 61 (e_T 60 (e_L 60 (0, ei_bin eF_add 61, 0, 0)) (e_L 61 (0, ei_ald elay false 62, 0, 0))) (e_T 62 (e_L 62 (0, ei_goto 66, 0, 0)) (e_T 65 (e_L 65 (0, ei_push (0, (-1)) 66, 0, 0)) (e_L 66 (1, e_nof, 1, 0))))))))
set_option maxRecDepth 20000 in
set_option maxHeartbeats 4000000 in
theorem te_449_0_ok : ∀ pc, e_EOq eft cls elay eI n_449 pc (te_449_0 pc) :=
  (e_Tok2
  (e_Tok2
  (e_Tok2
  (e_Tok2
  (e_Tok2
  (e_Lok (ld_iload_n_1 (x_dk dn_449_0_0_ok 0 rfl)))
  (e_Lok (e_st (I := eI) (er_i2l (x_dk dn_449_0_0_ok 1 rfl)) (nx_un (fun _ => rfl)))))
  (e_Tok2
  (e_Lok (ps_lconst_0 (x_dk dn_449_0_0_ok 2 rfl)))
  (e_Lok (ld_aload_n_0 (x_dk dn_449_0_0_ok 3 rfl)))))
  (e_Tok2
  (e_Tok2
  (e_Lok (lk_12_8g ho_449 (x_dk dn_449_0_0_ok 4 rfl)))
  (e_Lok (ps_iconst_5 (x_dk dn_449_0_0_ok 5 rfl))))
  (e_Tok2
  (e_Lok (sm_iaload (x_dk dn_449_0_0_ok 6 rfl)))
  (e_Tok2
  (e_Lok (ps_sipush_2000 (x_dk dn_449_0_0_ok 7 rfl)))
  (e_Lok (e_st (I := eI) (er_icmpge (off := 12) (tg := 24) (x_dk dn_449_0_0_ok 8 rfl) (by decide)) nx_if2))))))
  (e_Tok2
  (e_Tok2
  (e_Tok2
  (e_Lok (ld_aload_n_0 (x_dk dn_449_0_0_ok 9 rfl)))
  (e_Lok (lk_12_8g ho_449 (x_dk dn_449_0_0_ok 10 rfl))))
  (e_Tok2
  (e_Lok (ps_iconst_5 (x_dk dn_449_0_0_ok 11 rfl)))
  (e_Tok2
  (e_Lok (sm_iaload (x_dk dn_449_0_0_ok 12 rfl)))
  (e_Lok (e_st (I := eI) (er_goto (off := 6) (tg := 27) (x_dk dn_449_0_0_ok 13 rfl) (by decide)) nx_goto)))))
  (e_Tok2
  (e_Tok2
  (e_Lok (ps_sipush_2000 (x_dk dn_449_0_0_ok 14 rfl)))
  (e_Lok (ps_iconst_1 (x_dk dn_449_0_0_ok 15 rfl))))
  (e_Tok2
  (e_Lok (sm_isub (x_dk dn_449_0_0_ok 16 rfl)))
  (e_Tok2
  (e_Lok (e_st (I := eI) (er_i2l (x_dk dn_449_0_0_ok 17 rfl)) (nx_un (fun _ => rfl))))
  (e_Lok (lk_12_301 ho_449 (x_dk dn_449_0_0_ok 18 rfl))))))))
  (e_Tok2
  (e_Tok2
  (e_Tok2
  (e_Tok2
  (e_Lok (e_st (I := eI) (er_ifeq (off := 32) (tg := 65) (x_dk dn_449_0_0_ok 19 rfl) (by decide)) nx_if1))
  (e_Lok (ld_iload_n_2 (x_dk dn_449_0_0_ok 20 rfl))))
  (e_Tok2
  (e_Lok (e_st (I := eI) (er_i2l (x_dk dn_449_0_0_ok 21 rfl)) (nx_un (fun _ => rfl))))
  (e_Tok2
  (e_Lok (ps_lconst_0 (x_dk dn_449_0_0_ok 22 rfl)))
  (e_Lok (e_st (I := eI) (er_ldc2 (ix := 348) (z := 3) (v := 3) (x_dk dn_449_0_0_ok 23 rfl) (in_t11 (List.mem_of_getElem? (i := 71) rfl) rfl) (by decide)) (nx_push (Or.inl rfl)))))))
  (e_Tok2
  (e_Tok2
  (e_Lok (lk_12_301 ho_449 (x_dk dn_449_0_0_ok 24 rfl)))
  (e_Lok (e_st (I := eI) (er_ifeq (off := 20) (tg := 65) (x_dk dn_449_0_1_ok 0 rfl) (by decide)) nx_if1)))
  (e_Tok2
  (e_Lok (ld_aload_n_0 (x_dk dn_449_0_1_ok 1 rfl)))
  (e_Tok2
  (e_Lok (lk_12_8g ho_449 (x_dk dn_449_0_1_ok 2 rfl)))
  (e_Lok (ps_sipush_25060 (x_dk dn_449_0_1_ok 3 rfl)))))))
  (e_Tok2
  (e_Tok2
  (e_Tok2
  (e_Lok (ps_iconst_4 (x_dk dn_449_0_1_ok 4 rfl)))
  (e_Lok (ld_iload_n_1 (x_dk dn_449_0_1_ok 5 rfl))))
  (e_Tok2
  (e_Lok (sm_imul (x_dk dn_449_0_1_ok 6 rfl)))
  (e_Tok2
  (e_Lok (sm_iadd (x_dk dn_449_0_1_ok 7 rfl)))
  (e_Lok (ld_iload_n_2 (x_dk dn_449_0_1_ok 8 rfl))))))
  (e_Tok2
  (e_Tok2
  (e_Lok (sm_iadd (x_dk dn_449_0_1_ok 9 rfl)))
  (e_Lok (sm_iaload (x_dk dn_449_0_1_ok 10 rfl))))
  (e_Tok2
  (e_Lok (e_st (I := eI) (er_goto (off := 4) (tg := 66) (x_dk dn_449_0_1_ok 11 rfl) (by decide)) nx_goto))
  (e_Tok2
  (e_Lok (ps_iconst_m1 (x_dk dn_449_0_1_ok 12 rfl)))
  (e_Lok (e_rt (I := eI) (k := 1) ⟨(x_dk dn_449_0_1_ok 13 rfl), rfl⟩))))))))
def te_449 : Nat → eE := te_449_0
theorem te_449_ok : ∀ pc, e_EOq eft cls elay eI n_449 pc (te_449 pc) := te_449_0_ok
end
end
-- part 41bm
section
noncomputable section
theorem ho_450 : (xm_y n_450).cls = "RobotCellHouseModel" := rfl
def dn_450_0_0 : List (Nat × Instr × Nat) := [(0, .iload_n 1, 1), (1, .tableswitch 104 0 8 #[51, 56, 61, 66, 71, 76, 81, 86, 91], 51), (52, .aload_n 0, 1), (53, .getfield 269, 3), (56, .ireturn, 1), (57, .aload_n 0, 1), (58, .getfield 273, 3), (61, .ireturn, 1), (62, .aload_n 0, 1), (63, .getfield 276, 3), (66, .ireturn, 1), (67, .aload_n 0, 1), (68, .getfield 279, 3), (71, .ireturn, 1), (72, .aload_n 0, 1), (73, .getfield 282, 3), (76, .ireturn, 1), (77, .aload_n 0, 1), (78, .getfield 285, 3), (81, .ireturn, 1), (82, .aload_n 0, 1), (83, .getfield 288, 3), (86, .ireturn, 1), (87, .aload_n 0, 1), (88, .getfield 317, 3)]
set_option maxRecDepth 20000 in
theorem dn_450_0_0_ok : dn_450_0_0.all (fun q => decide (decode (xm_b n_450) q.1 = .ok (q.2.1, q.2.2))) = true := xa_g_ok (by decide +kernel)
def dn_450_0_1 : List (Nat × Instr × Nat) := [(91, .ireturn, 1), (92, .aload_n 0, 1), (93, .getfield 265, 3), (96, .ifCond .eq 7, 3), (99, .iconst 1, 1), (100, .goto 4, 3), (103, .iconst 0, 1), (104, .ireturn, 1), (105, .iconst (-1), 1), (106, .ireturn, 1)]
set_option maxRecDepth 20000 in
theorem dn_450_0_1_ok : dn_450_0_1.all (fun q => decide (decode (xm_b n_450) q.1 = .ok (q.2.1, q.2.2))) = true := xa_g_ok (by decide +kernel)
def te_450_0 : Nat → eE := (e_T 76 (e_T 61 (e_T 53 (e_T 1 (e_T 0 (e_L 0 (0, ei_load 1 0 1, 0, 0)) (e_L 1 (0, ei_sw [((-2147483648), (-1), 105), (0, 0, 52), (1, 1, 57), (2, 2, 62), (3, 3, 67), (4, 4, 72), (5, 5, 77), (6, 6, 82), (7, 7, 87), (8, 8, 92), (9, 2147483647, 105)], 0, 0))) (e_T 52 (e_L 52 (0, ei_load 0 2 53, 0, 0)) (e_L 53 (0, ei_getf eft elay 12 10 56, 0, 0)))) (e_T 57 (e_T 56 (e_L 56 (1, e_nof, 1, 0)) (e_L 57 (0, ei_load 0 2 58, 0, 0))) (e_T 58 (e_L 58 (0, ei_getf eft elay 12 23 61, 0, 0)) (e_L 61 (1, e_nof, 1, 0))))) (e_T 67 (e_T 63 (e_T 62 (e_L 62 (0, ei_load 0 2 63, 0, 0)) (e_L 63 (0, ei_getf eft elay 12 30 66, 0, 0))) (e_T 66 (e_L 66 (1, e_nof, 1, 0)) (e_L 67 (0, ei_load 0 2 68, 0, 0)))) (e_T 71 (e_T 68 (e_L 68 (0, ei_getf eft elay 12 40 71, 0, 0)) (e_L 71 (1, e_nof, 1, 0))) (e_T 72 (e_L 72 (0, ei_load 0 2 73, 0, 0)) (e_T 73 (e_L 73 (0, ei_getf eft elay 12 42 76, 0, 0)) (e_L 76 (1, e_nof, 1, 0))))))) (e_T 91 (e_T 82 (e_T 78 (e_T 77 (e_L 77 (0, ei_load 0 2 78, 0, 0)) (e_L 78 (0, ei_getf eft elay 12 49 81, 0, 0))) (e_T 81 (e_L 81 (1, e_nof, 1, 0)) (e_L 82 (0, ei_load 0 2 83, 0, 0)))) (e_T 86 (e_T 83 (e_L 83 (0, ei_getf eft elay 12 5 86, 0, 0)) (e_L 86 (1, e_nof, 1, 0))) (e_T 87 (e_L 87 (0, ei_load 0 2 88, 0, 0)) (e_T 88 (e_L 88 (0, ei_getf eft elay 12 9 91, 0, 0)) (e_L 91 (1, e_nof, 1, 0)))))) (e_T 99 (e_T 93 (e_T 92 (e_L 92 (0, ei_load 0 2 93, 0, 0)) (e_L 93 (0, ei_getf eft elay 12 3 96, 0, 0))) (e_T 96 (e_L 96 (0, ei_if1 0 103 99, 0, 0)) (e_L 99 (0, ei_push (0, 1) 100, 0, 0)))) (e_T 103 (e_T 100 (e_L 100 (0, ei_goto 104, 0, 0)) (e_L 103 (0, ei_push (0, 0) 104, 0, 0))) (e_T 104 (e_L 104 (1, e_nof, 1, 0)) (e_T 105 (e_L 105 (0, ei_push (0, (-1)) 106, 0, 0)) (e_L 106 (1, e_nof, 1, 0))))))))
set_option maxRecDepth 20000 in
set_option maxHeartbeats 4000000 in
theorem te_450_0_ok : ∀ pc, e_EOq eft cls elay eI n_450 pc (te_450_0 pc) :=
  (e_Tok2
  (e_Tok2
  (e_Tok2
  (e_Tok2
  (e_Tok2
  (e_Lok (ld_iload_n_1 (x_dk dn_450_0_0_ok 0 rfl)))
  (e_Lok (e_st (I := eI) (er_tsw (dflt := 104) (lo := 0) (hi := 8) (offs := #[51, 56, 61, 66, 71, 76, 81, 86, 91]) (len := 51) (n := 9) (x_dk dn_450_0_0_ok 1 rfl) (by decide) (by decide +kernel)) nx_sw)))
  (e_Tok2
  (e_Lok (ld_aload_n_0 (x_dk dn_450_0_0_ok 2 rfl)))
  (e_Lok (lk_12_269g ho_450 (x_dk dn_450_0_0_ok 3 rfl)))))
  (e_Tok2
  (e_Tok2
  (e_Lok (e_rt (I := eI) (k := 1) ⟨(x_dk dn_450_0_0_ok 4 rfl), rfl⟩))
  (e_Lok (ld_aload_n_0 (x_dk dn_450_0_0_ok 5 rfl))))
  (e_Tok2
  (e_Lok (lk_12_273g ho_450 (x_dk dn_450_0_0_ok 6 rfl)))
  (e_Lok (e_rt (I := eI) (k := 1) ⟨(x_dk dn_450_0_0_ok 7 rfl), rfl⟩)))))
  (e_Tok2
  (e_Tok2
  (e_Tok2
  (e_Lok (ld_aload_n_0 (x_dk dn_450_0_0_ok 8 rfl)))
  (e_Lok (lk_12_276g ho_450 (x_dk dn_450_0_0_ok 9 rfl))))
  (e_Tok2
  (e_Lok (e_rt (I := eI) (k := 1) ⟨(x_dk dn_450_0_0_ok 10 rfl), rfl⟩))
  (e_Lok (ld_aload_n_0 (x_dk dn_450_0_0_ok 11 rfl)))))
  (e_Tok2
  (e_Tok2
  (e_Lok (lk_12_279g ho_450 (x_dk dn_450_0_0_ok 12 rfl)))
  (e_Lok (e_rt (I := eI) (k := 1) ⟨(x_dk dn_450_0_0_ok 13 rfl), rfl⟩)))
  (e_Tok2
  (e_Lok (ld_aload_n_0 (x_dk dn_450_0_0_ok 14 rfl)))
  (e_Tok2
  (e_Lok (lk_12_282g ho_450 (x_dk dn_450_0_0_ok 15 rfl)))
  (e_Lok (e_rt (I := eI) (k := 1) ⟨(x_dk dn_450_0_0_ok 16 rfl), rfl⟩)))))))
  (e_Tok2
  (e_Tok2
  (e_Tok2
  (e_Tok2
  (e_Lok (ld_aload_n_0 (x_dk dn_450_0_0_ok 17 rfl)))
  (e_Lok (lk_12_285g ho_450 (x_dk dn_450_0_0_ok 18 rfl))))
  (e_Tok2
  (e_Lok (e_rt (I := eI) (k := 1) ⟨(x_dk dn_450_0_0_ok 19 rfl), rfl⟩))
  (e_Lok (ld_aload_n_0 (x_dk dn_450_0_0_ok 20 rfl)))))
  (e_Tok2
  (e_Tok2
  (e_Lok (lk_12_288g ho_450 (x_dk dn_450_0_0_ok 21 rfl)))
  (e_Lok (e_rt (I := eI) (k := 1) ⟨(x_dk dn_450_0_0_ok 22 rfl), rfl⟩)))
  (e_Tok2
  (e_Lok (ld_aload_n_0 (x_dk dn_450_0_0_ok 23 rfl)))
  (e_Tok2
  (e_Lok (lk_12_317g ho_450 (x_dk dn_450_0_0_ok 24 rfl)))
  (e_Lok (e_rt (I := eI) (k := 1) ⟨(x_dk dn_450_0_1_ok 0 rfl), rfl⟩))))))
  (e_Tok2
  (e_Tok2
  (e_Tok2
  (e_Lok (ld_aload_n_0 (x_dk dn_450_0_1_ok 1 rfl)))
  (e_Lok (lk_12_265g ho_450 (x_dk dn_450_0_1_ok 2 rfl))))
  (e_Tok2
  (e_Lok (e_st (I := eI) (er_ifeq (off := 7) (tg := 103) (x_dk dn_450_0_1_ok 3 rfl) (by decide)) nx_if1))
  (e_Lok (ps_iconst_1 (x_dk dn_450_0_1_ok 4 rfl)))))
  (e_Tok2
  (e_Tok2
  (e_Lok (e_st (I := eI) (er_goto (off := 4) (tg := 104) (x_dk dn_450_0_1_ok 5 rfl) (by decide)) nx_goto))
  (e_Lok (ps_iconst_0 (x_dk dn_450_0_1_ok 6 rfl))))
  (e_Tok2
  (e_Lok (e_rt (I := eI) (k := 1) ⟨(x_dk dn_450_0_1_ok 7 rfl), rfl⟩))
  (e_Tok2
  (e_Lok (ps_iconst_m1 (x_dk dn_450_0_1_ok 8 rfl)))
  (e_Lok (e_rt (I := eI) (k := 1) ⟨(x_dk dn_450_0_1_ok 9 rfl), rfl⟩))))))))
def te_450 : Nat → eE := te_450_0
theorem te_450_ok : ∀ pc, e_EOq eft cls elay eI n_450 pc (te_450 pc) := te_450_0_ok
theorem ho_451 : (xm_y n_451).cls = "RobotCellHouseModel" := rfl
def dn_451_0_0 : List (Nat × Instr × Nat) := [(0, .iload_n 1, 1), (1, .i2l, 1), (2, .lconst 0, 1), (3, .ldc2_w 348, 3), (6, .invokestatic 301, 3), (9, .ifCond .eq 12, 3), (12, .aload_n 0, 1), (13, .getfield 24, 3), (16, .iload_n 1, 1), (17, .iaload, 1), (18, .goto 4, 3), (21, .iconst (-1), 1), (22, .ireturn, 1)]
set_option maxRecDepth 20000 in
theorem dn_451_0_0_ok : dn_451_0_0.all (fun q => decide (decode (xm_b n_451) q.1 = .ok (q.2.1, q.2.2))) = true := xa_g_ok (by decide +kernel)
def te_451_0 : Nat → eE := (e_T 9 (e_T 2 (e_T 0 (e_L 0 (0, ei_load 1 0 1, 0, 0)) (e_T 1 (e_L 1 (0, ei_un (fun x => (4, x)) 2, 0, 0)) (e_L 2 (0, ei_push (4, 0) 3, 0, 0)))) (e_T 3 (e_L 3 (0, ei_push (4, 3) 6, 0, 0)) (e_T 6 (e_L 6 (2, e_nof, 266, 3)) (e_L 9 (0, ei_if1 0 21 12, 0, 0))))) (e_T 16 (e_T 12 (e_L 12 (0, ei_load 0 2 13, 0, 0)) (e_T 13 (e_L 13 (0, ei_getf eft elay 12 7 16, 0, 0)) (e_L 16 (0, ei_load 1 0 17, 0, 0)))) (e_T 18 (e_T 17 (e_L 17 (0, ei_ald elay false 18, 0, 0)) (e_L 18 (0, ei_goto 22, 0, 0))) (e_T 21 (e_L 21 (0, ei_push (0, (-1)) 22, 0, 0)) (e_L 22 (1, e_nof, 1, 0))))))
set_option maxRecDepth 20000 in
set_option maxHeartbeats 4000000 in
theorem te_451_0_ok : ∀ pc, e_EOq eft cls elay eI n_451 pc (te_451_0 pc) :=
  (e_Tok2
  (e_Tok2
  (e_Tok2
  (e_Lok (ld_iload_n_1 (x_dk dn_451_0_0_ok 0 rfl)))
  (e_Tok2
  (e_Lok (e_st (I := eI) (er_i2l (x_dk dn_451_0_0_ok 1 rfl)) (nx_un (fun _ => rfl))))
  (e_Lok (ps_lconst_0 (x_dk dn_451_0_0_ok 2 rfl)))))
  (e_Tok2
  (e_Lok (e_st (I := eI) (er_ldc2 (ix := 348) (z := 3) (v := 3) (x_dk dn_451_0_0_ok 3 rfl) (in_t11 (List.mem_of_getElem? (i := 71) rfl) rfl) (by decide)) (nx_push (Or.inl rfl))))
  (e_Tok2
  (e_Lok (lk_12_301 ho_451 (x_dk dn_451_0_0_ok 4 rfl)))
  (e_Lok (e_st (I := eI) (er_ifeq (off := 12) (tg := 21) (x_dk dn_451_0_0_ok 5 rfl) (by decide)) nx_if1)))))
  (e_Tok2
  (e_Tok2
  (e_Lok (ld_aload_n_0 (x_dk dn_451_0_0_ok 6 rfl)))
  (e_Tok2
  (e_Lok (lk_12_24g ho_451 (x_dk dn_451_0_0_ok 7 rfl)))
  (e_Lok (ld_iload_n_1 (x_dk dn_451_0_0_ok 8 rfl)))))
  (e_Tok2
  (e_Tok2
  (e_Lok (sm_iaload (x_dk dn_451_0_0_ok 9 rfl)))
  (e_Lok (e_st (I := eI) (er_goto (off := 4) (tg := 22) (x_dk dn_451_0_0_ok 10 rfl) (by decide)) nx_goto)))
  (e_Tok2
  (e_Lok (ps_iconst_m1 (x_dk dn_451_0_0_ok 11 rfl)))
  (e_Lok (e_rt (I := eI) (k := 1) ⟨(x_dk dn_451_0_0_ok 12 rfl), rfl⟩))))))
def te_451 : Nat → eE := te_451_0
theorem te_451_ok : ∀ pc, e_EOq eft cls elay eI n_451 pc (te_451 pc) := te_451_0_ok
theorem ho_452 : (xm_y n_452).cls = "java/util/Arrays" := rfl
def dn_452_0_0 : List (Nat × Instr × Nat) := [(0, .iconst 0, 1), (1, .istore_n 2, 1), (2, .aload_n 0, 1), (3, .arraylength, 1), (4, .istore_n 3, 1), (5, .iload_n 2, 1), (6, .iload_n 3, 1), (7, .if_icmp .ge 13, 3), (10, .aload_n 0, 1), (11, .iload_n 2, 1), (12, .iload_n 1, 1), (13, .iastore, 1), (14, .iinc 2 1, 3), (17, .goto (-12), 3), (20, .return_, 1)]
set_option maxRecDepth 20000 in
theorem dn_452_0_0_ok : dn_452_0_0.all (fun q => decide (decode (xm_b n_452) q.1 = .ok (q.2.1, q.2.2))) = true := xa_g_ok (by decide +kernel)
def te_452_0 : Nat → eE := (e_T 6 (e_T 2 (e_T 0 (e_L 0 (0, ei_push (0, 0) 1, 0, 0)) (e_T 1 (e_L 1 (0, ei_stor 2 0 2, 0, 0)) (e_L 2 (0, ei_load 0 2 3, 0, 0)))) (e_T 4 (e_T 3 (e_L 3 (0, ei_alen elay 4, 0, 0)) (e_L 4 (0, ei_stor 3 0 5, 0, 0))) (e_T 5 (e_L 5 (0, ei_load 2 0 6, 0, 0)) (e_L 6 (0, ei_load 3 0 7, 0, 0))))) (e_T 12 (e_T 10 (e_T 7 (e_L 7 (0, ei_if2 3 20 10, 0, 0)) (e_L 10 (0, ei_load 0 2 11, 0, 0))) (e_T 11 (e_L 11 (0, ei_load 2 0 12, 0, 0)) (e_L 12 (0, ei_load 1 0 13, 0, 0)))) (e_T 14 (e_T 13 (e_L 13 (0, ei_ast elay false 14, 0, 0)) (e_L 14 (0, ei_inc 2 1 17, 0, 0))) (e_T 17 (e_L 17 (0, ei_goto 5, 0, 0)) (e_L 20 (1, e_nof, 0, 0))))))
set_option maxRecDepth 20000 in
set_option maxHeartbeats 4000000 in
theorem te_452_0_ok : ∀ pc, e_EOq eft cls elay eI n_452 pc (te_452_0 pc) :=
  (e_Tok2
  (e_Tok2
  (e_Tok2
  (e_Lok (ps_iconst_0 (x_dk dn_452_0_0_ok 0 rfl)))
  (e_Tok2
  (e_Lok (e_st (I := eI) (er_istore_n (i := 2) (x_dk dn_452_0_0_ok 1 rfl) (by decide +kernel)) nx_stor))
  (e_Lok (ld_aload_n_0 (x_dk dn_452_0_0_ok 2 rfl)))))
  (e_Tok2
  (e_Tok2
  (e_Lok (e_st (I := eI) (er_alen (x_dk dn_452_0_0_ok 3 rfl)) nx_alen))
  (e_Lok (e_st (I := eI) (er_istore_n (i := 3) (x_dk dn_452_0_0_ok 4 rfl) (by decide +kernel)) nx_stor)))
  (e_Tok2
  (e_Lok (ld_iload_n_2 (x_dk dn_452_0_0_ok 5 rfl)))
  (e_Lok (ld_iload_n_3 (x_dk dn_452_0_0_ok 6 rfl))))))
  (e_Tok2
  (e_Tok2
  (e_Tok2
  (e_Lok (e_st (I := eI) (er_icmpge (off := 13) (tg := 20) (x_dk dn_452_0_0_ok 7 rfl) (by decide)) nx_if2))
  (e_Lok (ld_aload_n_0 (x_dk dn_452_0_0_ok 8 rfl))))
  (e_Tok2
  (e_Lok (ld_iload_n_2 (x_dk dn_452_0_0_ok 9 rfl)))
  (e_Lok (ld_iload_n_1 (x_dk dn_452_0_0_ok 10 rfl)))))
  (e_Tok2
  (e_Tok2
  (e_Lok (sm_iastore (x_dk dn_452_0_0_ok 11 rfl)))
  (e_Lok (e_st (I := eI) (er_iinc (i := 2) (n := 1) (x_dk dn_452_0_0_ok 12 rfl) (by decide +kernel) (by decide)) nx_inc)))
  (e_Tok2
  (e_Lok (e_st (I := eI) (er_goto (off := (-12)) (tg := 5) (x_dk dn_452_0_0_ok 13 rfl) (by decide)) nx_goto))
  (e_Lok (e_rt (I := eI) (k := 0) ⟨(x_dk dn_452_0_0_ok 14 rfl), rfl⟩))))))
def te_452 : Nat → eE := te_452_0
theorem te_452_ok : ∀ pc, e_EOq eft cls elay eI n_452 pc (te_452 pc) := te_452_0_ok
end
end
