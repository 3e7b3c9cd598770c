noncomputable section
theorem ho_419 : (xm_y n_419).cls = "RobotCellHouseModel" := rfl
def dn_419_0_0 : List (Nat × Instr × Nat) := [(0, .aload_n 0, 1), (1, .iload_n 1, 1), (2, .invokevirtual 305, 3), (5, .ifCond .ne 5, 3), (8, .iconst (-1), 1), (9, .ireturn, 1), (10, .iload_n 1, 1), (11, .invokestatic 294, 3), (14, .istore_n 2, 1), (15, .aload_n 0, 1), (16, .getfield 265, 3), (19, .ifCond .eq 56, 3), (22, .aload_n 0, 1), (23, .getfield 8, 3), (26, .iload_n 2, 1), (27, .iconst 3, 1), (28, .iadd, 1), (29, .iaload, 1), (30, .ifCond .lt 45, 3), (33, .aload_n 0, 1), (34, .getfield 8, 3), (37, .iload_n 2, 1), (38, .iconst 4, 1), (39, .iadd, 1), (40, .iaload, 1)]
set_option maxRecDepth 20000 in
theorem dn_419_0_0_ok : dn_419_0_0.all (fun q => decide (decode (xm_b n_419) q.1 = .ok (q.2.1, q.2.2))) = true := xa_g_ok (by decide +kernel)
def dn_419_0_1 : List (Nat × Instr × Nat) := [(41, .ifCond .eq 34, 3), (44, .aload_n 0, 1), (45, .getfield 8, 3), (48, .iload_n 2, 1), (49, .iconst 0, 1), (50, .iadd, 1), (51, .iaload, 1), (52, .ifCond .ne 23, 3), (55, .aload_n 0, 1), (56, .getfield 8, 3), (59, .iload_n 2, 1), (60, .iconst 2, 1), (61, .iadd, 1), (62, .iaload, 1), (63, .ifCond .ge 12, 3), (66, .aload_n 0, 1), (67, .getfield 8, 3), (70, .iconst 1, 1), (71, .iaload, 1), (72, .ifCond .ne 6, 3), (75, .bipush (-2), 2), (77, .ireturn, 1), (78, .aload_n 0, 1), (79, .invokevirtual 863, 3), (82, .ifCond .eq 6, 3)]
set_option maxRecDepth 20000 in
theorem dn_419_0_1_ok : dn_419_0_1.all (fun q => decide (decode (xm_b n_419) q.1 = .ok (q.2.1, q.2.2))) = true := xa_g_ok (by decide +kernel)
def dn_419_0_2 : List (Nat × Instr × Nat) := [(85, .bipush (-3), 2), (87, .ireturn, 1), (88, .iconst 0, 1), (89, .istore_n 3, 1), (90, .iconst 0, 1), (91, .istore 4, 2), (93, .iload 4, 2), (95, .aload_n 0, 1), (96, .getfield 8, 3), (99, .iload_n 2, 1), (100, .iconst 3, 1), (101, .iadd, 1), (102, .iaload, 1), (103, .if_icmp .ge 61, 3), (106, .iload_n 3, 1), (107, .iload 4, 2), (109, .ifCond .eq 42, 3), (112, .aload_n 0, 1), (113, .getfield 8, 3), (116, .sipush 21060, 3), (119, .sipush 1000, 3), (122, .iload_n 1, 1), (123, .imul, 1), (124, .iadd, 1), (125, .iload 4, 2)]
set_option maxRecDepth 20000 in
theorem dn_419_0_2_ok : dn_419_0_2.all (fun q => decide (decode (xm_b n_419) q.1 = .ok (q.2.1, q.2.2))) = true := xa_g_ok (by decide +kernel)
def dn_419_0_3 : List (Nat × Instr × Nat) := [(127, .iadd, 1), (128, .iaload, 1), (129, .aload_n 0, 1), (130, .getfield 8, 3), (133, .sipush 21060, 3), (136, .sipush 1000, 3), (139, .iload_n 1, 1), (140, .imul, 1), (141, .iadd, 1), (142, .iload 4, 2), (144, .iadd, 1), (145, .iconst 1, 1), (146, .isub, 1), (147, .iaload, 1), (148, .if_icmp .eq 7, 3), (151, .iconst 1, 1), (152, .goto 4, 3), (155, .iconst 0, 1), (156, .iadd, 1), (157, .istore_n 3, 1), (158, .iinc 4 1, 3), (161, .goto (-68), 3), (164, .iload_n 3, 1), (165, .ifCond .le 28, 3), (168, .aload_n 0, 1)]
set_option maxRecDepth 20000 in
theorem dn_419_0_3_ok : dn_419_0_3.all (fun q => decide (decode (xm_b n_419) q.1 = .ok (q.2.1, q.2.2))) = true := xa_g_ok (by decide +kernel)
def dn_419_1_0 : List (Nat × Instr × Nat) := [(169, .getfield 8, 3), (172, .iload_n 2, 1), (173, .bipush 6, 2), (175, .iadd, 1), (176, .iconst 1, 1), (177, .iastore, 1), (178, .aload_n 0, 1), (179, .getfield 8, 3), (182, .iload_n 2, 1), (183, .bipush 7, 2), (185, .iadd, 1), (186, .iconst 0, 1), (187, .iastore, 1), (188, .aload_n 0, 1), (189, .iload_n 1, 1), (190, .invokevirtual 768, 3), (193, .aload_n 0, 1), (194, .bipush 11, 2), (196, .iload_n 1, 1), (197, .iconst 0, 1), (198, .iconst 0, 1), (199, .invokevirtual 866, 3), (202, .iload_n 3, 1), (203, .ireturn, 1)]
set_option maxRecDepth 20000 in
theorem dn_419_1_0_ok : dn_419_1_0.all (fun q => decide (decode (xm_b n_419) q.1 = .ok (q.2.1, q.2.2))) = true := xa_g_ok (by decide +kernel)
def te_419_0 : Nat → eE := (e_T 26 (e_T 10 (e_T 2 (e_T 0 (e_L 0 (0, ei_load 0 2 1, 0, 0)) (e_T 1 (e_L 1 (0, ei_load 1 0 2, 0, 0)) (e_L 2 (2, e_nof, 270, 2)))) (e_T 8 (e_T 5 (e_L 5 (0, ei_if1 1 10 8, 0, 0)) (e_L 8 (0, ei_push (0, (-1)) 9, 0, 0))) (e_T 9 (e_L 9 (1, e_nof, 1, 0)) (e_L 10 (0, ei_load 1 0 11, 0, 0))))) (e_T 16 (e_T 14 (e_T 11 (e_L 11 (2, e_nof, 268, 1)) (e_L 14 (0, ei_stor 2 0 15, 0, 0))) (e_T 15 (e_L 15 (0, ei_load 0 2 16, 0, 0)) (e_L 16 (0, ei_getf eft elay 12 3 19, 0, 0)))) (e_T 22 (e_T 19 (e_L 19 (0, ei_if1 0 75 22, 0, 0)) (e_L 22 (0, ei_load 0 2 23, 0, 0))) (e_T 23 (e_L 23 (0, ei_getf eft elay 12 0 26, 0, 0)) (e_L 26 (0, ei_load 2 0 27, 0, 0)))))) (e_T 38 (e_T 30 (e_T 28 (e_T 27 (e_L 27 (0, ei_push (0, 3) 28, 0, 0)) (e_L 28 (0, ei_bin eF_add 29, 0, 0))) (e_T 29 (e_L 29 (0, ei_ald elay false 30, 0, 0)) (e_L 30 (0, ei_if1 2 75 33, 0, 0)))) (e_T 34 (e_T 33 (e_L 33 (0, ei_load 0 2 34, 0, 0)) (e_L 34 (0, ei_getf eft elay 12 0 37, 0, 0))) (e_T 37 (e_L 37 (0, ei_load 2 0 38, 0, 0)) (e_L 38 (0, ei_push (0, 4) 39, 0, 0))))) (e_T 44 (e_T 40 (e_T 39 (e_L 39 (0, ei_bin eF_add 40, 0, 0)) (e_L 40 (0, ei_ald elay false 41, 0, 0))) (e_T 41 (e_L 41 (0, ei_if1 0 75 44, 0, 0)) (e_L 44 (0, ei_load 0 2 45, 0, 0)))) (e_T 48 (e_T 45 (e_L 45 (0, ei_getf eft elay 12 0 48, 0, 0)) (e_L 48 (0, ei_load 2 0 49, 0, 0))) (e_T 49 (e_L 49 (0, ei_push (0, 0) 50, 0, 0)) (e_L 50 (0, ei_bin eF_add 51, 0, 0)))))))
set_option maxRecDepth 20000 in
set_option maxHeartbeats 4000000 in
theorem te_419_0_ok : ∀ pc, e_EOq eft cls elay eI n_419 pc (te_419_0 pc) :=
  (e_Tok2
  (e_Tok2
  (e_Tok2
  (e_Tok2
  (e_Lok (ld_aload_n_0 (x_dk dn_419_0_0_ok 0 rfl)))
  (e_Tok2
  (e_Lok (ld_iload_n_1 (x_dk dn_419_0_0_ok 1 rfl)))
  (e_Lok (lk_12_305 ho_419 (x_dk dn_419_0_0_ok 2 rfl)))))
  (e_Tok2
  (e_Tok2
  (e_Lok (e_st (I := eI) (er_ifne (off := 5) (tg := 10) (x_dk dn_419_0_0_ok 3 rfl) (by decide)) nx_if1))
  (e_Lok (ps_iconst_m1 (x_dk dn_419_0_0_ok 4 rfl))))
  (e_Tok2
  (e_Lok (e_rt (I := eI) (k := 1) ⟨(x_dk dn_419_0_0_ok 5 rfl), rfl⟩))
  (e_Lok (ld_iload_n_1 (x_dk dn_419_0_0_ok 6 rfl))))))
  (e_Tok2
  (e_Tok2
  (e_Tok2
  (e_Lok (lk_12_294 ho_419 (x_dk dn_419_0_0_ok 7 rfl)))
  (e_Lok (e_st (I := eI) (er_istore_n (i := 2) (x_dk dn_419_0_0_ok 8 rfl) (by decide +kernel)) nx_stor)))
  (e_Tok2
  (e_Lok (ld_aload_n_0 (x_dk dn_419_0_0_ok 9 rfl)))
  (e_Lok (lk_12_265g ho_419 (x_dk dn_419_0_0_ok 10 rfl)))))
  (e_Tok2
  (e_Tok2
  (e_Lok (e_st (I := eI) (er_ifeq (off := 56) (tg := 75) (x_dk dn_419_0_0_ok 11 rfl) (by decide)) nx_if1))
  (e_Lok (ld_aload_n_0 (x_dk dn_419_0_0_ok 12 rfl))))
  (e_Tok2
  (e_Lok (lk_12_8g ho_419 (x_dk dn_419_0_0_ok 13 rfl)))
  (e_Lok (ld_iload_n_2 (x_dk dn_419_0_0_ok 14 rfl)))))))
  (e_Tok2
  (e_Tok2
  (e_Tok2
  (e_Tok2
  (e_Lok (ps_iconst_3 (x_dk dn_419_0_0_ok 15 rfl)))
  (e_Lok (sm_iadd (x_dk dn_419_0_0_ok 16 rfl))))
  (e_Tok2
  (e_Lok (sm_iaload (x_dk dn_419_0_0_ok 17 rfl)))
  (e_Lok (e_st (I := eI) (er_iflt (off := 45) (tg := 75) (x_dk dn_419_0_0_ok 18 rfl) (by decide)) nx_if1))))
  (e_Tok2
  (e_Tok2
  (e_Lok (ld_aload_n_0 (x_dk dn_419_0_0_ok 19 rfl)))
  (e_Lok (lk_12_8g ho_419 (x_dk dn_419_0_0_ok 20 rfl))))
  (e_Tok2
  (e_Lok (ld_iload_n_2 (x_dk dn_419_0_0_ok 21 rfl)))
  (e_Lok (ps_iconst_4 (x_dk dn_419_0_0_ok 22 rfl))))))
  (e_Tok2
  (e_Tok2
  (e_Tok2
  (e_Lok (sm_iadd (x_dk dn_419_0_0_ok 23 rfl)))
  (e_Lok (sm_iaload (x_dk dn_419_0_0_ok 24 rfl))))
  (e_Tok2
  (e_Lok (e_st (I := eI) (er_ifeq (off := 34) (tg := 75) (x_dk dn_419_0_1_ok 0 rfl) (by decide)) nx_if1))
  (e_Lok (ld_aload_n_0 (x_dk dn_419_0_1_ok 1 rfl)))))
  (e_Tok2
  (e_Tok2
  (e_Lok (lk_12_8g ho_419 (x_dk dn_419_0_1_ok 2 rfl)))
  (e_Lok (ld_iload_n_2 (x_dk dn_419_0_1_ok 3 rfl))))
  (e_Tok2
  (e_Lok (ps_iconst_0 (x_dk dn_419_0_1_ok 4 rfl)))
  (e_Lok (sm_iadd (x_dk dn_419_0_1_ok 5 rfl))))))))
def te_419_31 : Nat → eE := (e_T 75 (e_T 61 (e_T 55 (e_T 51 (e_L 51 (0, ei_ald elay false 52, 0, 0)) (e_T 52 (e_L 52 (0, ei_if1 1 75 55, 0, 0)) (e_L 55 (0, ei_load 0 2 56, 0, 0)))) (e_T 59 (e_T 56 (e_L 56 (0, ei_getf eft elay 12 0 59, 0, 0)) (e_L 59 (0, ei_load 2 0 60, 0, 0))) (e_T 60 (e_L 60 (0, ei_push (0, 2) 61, 0, 0)) (e_L 61 (0, ei_bin eF_add 62, 0, 0))))) (e_T 67 (e_T 63 (e_T 62 (e_L 62 (0, ei_ald elay false 63, 0, 0)) (e_L 63 (0, ei_if1 3 75 66, 0, 0))) (e_T 66 (e_L 66 (0, ei_load 0 2 67, 0, 0)) (e_L 67 (0, ei_getf eft elay 12 0 70, 0, 0)))) (e_T 71 (e_T 70 (e_L 70 (0, ei_push (0, 1) 71, 0, 0)) (e_L 71 (0, ei_ald elay false 72, 0, 0))) (e_T 72 (e_L 72 (0, ei_if1 1 78 75, 0, 0)) (e_L 75 (0, ei_push (0, (-2)) 77, 0, 0)))))) (e_T 89 (e_T 82 (e_T 78 (e_T 77 (e_L 77 (1, e_nof, 1, 0)) (e_L 78 (0, ei_load 0 2 79, 0, 0))) (e_T 79 (e_L 79 (2, e_nof, 422, 1)) (e_L 82 (0, ei_if1 0 88 85, 0, 0)))) (e_T 87 (e_T 85 (e_L 85 (0, ei_push (0, (-3)) 87, 0, 0)) (e_L 87 (1, e_nof, 1, 0))) (e_T 88 (e_L 88 (0, ei_push (0, 0) 89, 0, 0)) (e_L 89 (0, ei_stor 3 0 90, 0, 0))))) (e_T 95 (e_T 91 (e_T 90 (e_L 90 (0, ei_push (0, 0) 91, 0, 0)) (e_L 91 (0, ei_stor 4 0 93, 0, 0))) (e_T 93 (e_L 93 (0, ei_load 4 0 95, 0, 0)) (e_L 95 (0, ei_load 0 2 96, 0, 0)))) (e_T 99 (e_T 96 (e_L 96 (0, ei_getf eft elay 12 0 99, 0, 0)) (e_L 99 (0, ei_load 2 0 100, 0, 0))) (e_T 100 (e_L 100 (0, ei_push (0, 3) 101, 0, 0)) (e_L 101 (0, ei_bin eF_add 102, 0, 0)))))))
set_option maxRecDepth 20000 in
set_option maxHeartbeats 4000000 in
theorem te_419_31_ok : ∀ pc, e_EOq eft cls elay eI n_419 pc (te_419_31 pc) :=
  (e_Tok2
  (e_Tok2
  (e_Tok2
  (e_Tok2
  (e_Lok (sm_iaload (x_dk dn_419_0_1_ok 6 rfl)))
  (e_Tok2
  (e_Lok (e_st (I := eI) (er_ifne (off := 23) (tg := 75) (x_dk dn_419_0_1_ok 7 rfl) (by decide)) nx_if1))
  (e_Lok (ld_aload_n_0 (x_dk dn_419_0_1_ok 8 rfl)))))
  (e_Tok2
  (e_Tok2
  (e_Lok (lk_12_8g ho_419 (x_dk dn_419_0_1_ok 9 rfl)))
  (e_Lok (ld_iload_n_2 (x_dk dn_419_0_1_ok 10 rfl))))
  (e_Tok2
  (e_Lok (ps_iconst_2 (x_dk dn_419_0_1_ok 11 rfl)))
  (e_Lok (sm_iadd (x_dk dn_419_0_1_ok 12 rfl))))))
  (e_Tok2
  (e_Tok2
  (e_Tok2
  (e_Lok (sm_iaload (x_dk dn_419_0_1_ok 13 rfl)))
  (e_Lok (e_st (I := eI) (er_ifge (off := 12) (tg := 75) (x_dk dn_419_0_1_ok 14 rfl) (by decide)) nx_if1)))
  (e_Tok2
  (e_Lok (ld_aload_n_0 (x_dk dn_419_0_1_ok 15 rfl)))
  (e_Lok (lk_12_8g ho_419 (x_dk dn_419_0_1_ok 16 rfl)))))
  (e_Tok2
  (e_Tok2
  (e_Lok (ps_iconst_1 (x_dk dn_419_0_1_ok 17 rfl)))
  (e_Lok (sm_iaload (x_dk dn_419_0_1_ok 18 rfl))))
  (e_Tok2
  (e_Lok (e_st (I := eI) (er_ifne (off := 6) (tg := 78) (x_dk dn_419_0_1_ok 19 rfl) (by decide)) nx_if1))
  (e_Lok (ps_bipush_m2 (x_dk dn_419_0_1_ok 20 rfl)))))))
  (e_Tok2
  (e_Tok2
  (e_Tok2
  (e_Tok2
  (e_Lok (e_rt (I := eI) (k := 1) ⟨(x_dk dn_419_0_1_ok 21 rfl), rfl⟩))
  (e_Lok (ld_aload_n_0 (x_dk dn_419_0_1_ok 22 rfl))))
  (e_Tok2
  (e_Lok (lk_12_863 ho_419 (x_dk dn_419_0_1_ok 23 rfl)))
  (e_Lok (e_st (I := eI) (er_ifeq (off := 6) (tg := 88) (x_dk dn_419_0_1_ok 24 rfl) (by decide)) nx_if1))))
  (e_Tok2
  (e_Tok2
  (e_Lok (ps_bipush_m3 (x_dk dn_419_0_2_ok 0 rfl)))
  (e_Lok (e_rt (I := eI) (k := 1) ⟨(x_dk dn_419_0_2_ok 1 rfl), rfl⟩)))
  (e_Tok2
  (e_Lok (ps_iconst_0 (x_dk dn_419_0_2_ok 2 rfl)))
  (e_Lok (e_st (I := eI) (er_istore_n (i := 3) (x_dk dn_419_0_2_ok 3 rfl) (by decide +kernel)) nx_stor)))))
  (e_Tok2
  (e_Tok2
  (e_Tok2
  (e_Lok (ps_iconst_0 (x_dk dn_419_0_2_ok 4 rfl)))
  (e_Lok (e_st (I := eI) (er_istore (i := 4) (x_dk dn_419_0_2_ok 5 rfl) (by decide +kernel)) nx_stor)))
  (e_Tok2
  (e_Lok (ld_iload_4 (x_dk dn_419_0_2_ok 6 rfl)))
  (e_Lok (ld_aload_n_0 (x_dk dn_419_0_2_ok 7 rfl)))))
  (e_Tok2
  (e_Tok2
  (e_Lok (lk_12_8g ho_419 (x_dk dn_419_0_2_ok 8 rfl)))
  (e_Lok (ld_iload_n_2 (x_dk dn_419_0_2_ok 9 rfl))))
  (e_Tok2
  (e_Lok (ps_iconst_3 (x_dk dn_419_0_2_ok 10 rfl)))
  (e_Lok (sm_iadd (x_dk dn_419_0_2_ok 11 rfl))))))))
def te_419_62 : Nat → eE := (e_T 128 (e_T 113 (e_T 106 (e_T 102 (e_L 102 (0, ei_ald elay false 103, 0, 0)) (e_T 103 (e_L 103 (0, ei_if2 3 164 106, 0, 0)) (e_L 106 (0, ei_load 3 0 107, 0, 0)))) (e_T 109 (e_T 107 (e_L 107 (0, ei_load 4 0 109, 0, 0)) (e_L 109 (0, ei_if1 0 151 112, 0, 0))) (e_T 112 (e_L 112 (0, ei_load 0 2 113, 0, 0)) (e_L 113 (0, ei_getf eft elay 12 0 116, 0, 0))))) (e_T 123 (e_T 119 (e_T 116 (e_L 116 (0, ei_push (0, 21060) 119, 0, 0)) (e_L 119 (0, ei_push (0, 1000) 122, 0, 0))) (e_T 122 (e_L 122 (0, ei_load 1 0 123, 0, 0)) (e_L 123 (0, ei_bin eF_mul 124, 0, 0)))) (e_T 125 (e_T 124 (e_L 124 (0, ei_bin eF_add 125, 0, 0)) (e_L 125 (0, ei_load 4 0 127, 0, 0))) (e_T 127 (e_L 127 (0, ei_bin eF_add 128, 0, 0)) (e_L 128 (0, ei_ald elay false 129, 0, 0)))))) (e_T 142 (e_T 136 (e_T 130 (e_T 129 (e_L 129 (0, ei_load 0 2 130, 0, 0)) (e_L 130 (0, ei_getf eft elay 12 0 133, 0, 0))) (e_T 133 (e_L 133 (0, ei_push (0, 21060) 136, 0, 0)) (e_L 136 (0, ei_push (0, 1000) 139, 0, 0)))) (e_T 140 (e_T 139 (e_L 139 (0, ei_load 1 0 140, 0, 0)) (e_L 140 (0, ei_bin eF_mul 141, 0, 0))) (e_T 141 (e_L 141 (0, ei_bin eF_add 142, 0, 0)) (e_L 142 (0, ei_load 4 0 144, 0, 0))))) (e_T 147 (e_T 145 (e_T 144 (e_L 144 (0, ei_bin eF_add 145, 0, 0)) (e_L 145 (0, ei_push (0, 1) 146, 0, 0))) (e_T 146 (e_L 146 (0, ei_bin eF_sub 147, 0, 0)) (e_L 147 (0, ei_ald elay false 148, 0, 0)))) (e_T 151 (e_T 148 (e_L 148 (0, ei_if2 0 155 151, 0, 0)) (e_L 151 (0, ei_push (0, 1) 152, 0, 0))) (e_T 152 (e_L 152 (0, ei_goto 156, 0, 0)) (e_L 155 (0, ei_push (0, 0) 156, 0, 0)))))))
set_option maxRecDepth 20000 in
set_option maxHeartbeats 4000000 in
theorem te_419_62_ok : ∀ pc, e_EOq eft cls elay eI n_419 pc (te_419_62 pc) :=
  (e_Tok2
  (e_Tok2
  (e_Tok2
  (e_Tok2
  (e_Lok (sm_iaload (x_dk dn_419_0_2_ok 12 rfl)))
  (e_Tok2
  (e_Lok (e_st (I := eI) (er_icmpge (off := 61) (tg := 164) (x_dk dn_419_0_2_ok 13 rfl) (by decide)) nx_if2))
  (e_Lok (ld_iload_n_3 (x_dk dn_419_0_2_ok 14 rfl)))))
  (e_Tok2
  (e_Tok2
  (e_Lok (ld_iload_4 (x_dk dn_419_0_2_ok 15 rfl)))
  (e_Lok (e_st (I := eI) (er_ifeq (off := 42) (tg := 151) (x_dk dn_419_0_2_ok 16 rfl) (by decide)) nx_if1)))
  (e_Tok2
  (e_Lok (ld_aload_n_0 (x_dk dn_419_0_2_ok 17 rfl)))
  (e_Lok (lk_12_8g ho_419 (x_dk dn_419_0_2_ok 18 rfl))))))
  (e_Tok2
  (e_Tok2
  (e_Tok2
  (e_Lok (ps_sipush_21060 (x_dk dn_419_0_2_ok 19 rfl)))
  (e_Lok (ps_sipush_1000 (x_dk dn_419_0_2_ok 20 rfl))))
  (e_Tok2
  (e_Lok (ld_iload_n_1 (x_dk dn_419_0_2_ok 21 rfl)))
  (e_Lok (sm_imul (x_dk dn_419_0_2_ok 22 rfl)))))
  (e_Tok2
  (e_Tok2
  (e_Lok (sm_iadd (x_dk dn_419_0_2_ok 23 rfl)))
  (e_Lok (ld_iload_4 (x_dk dn_419_0_2_ok 24 rfl))))
  (e_Tok2
  (e_Lok (sm_iadd (x_dk dn_419_0_3_ok 0 rfl)))
  (e_Lok (sm_iaload (x_dk dn_419_0_3_ok 1 rfl)))))))
  (e_Tok2
  (e_Tok2
  (e_Tok2
  (e_Tok2
  (e_Lok (ld_aload_n_0 (x_dk dn_419_0_3_ok 2 rfl)))
  (e_Lok (lk_12_8g ho_419 (x_dk dn_419_0_3_ok 3 rfl))))
  (e_Tok2
  (e_Lok (ps_sipush_21060 (x_dk dn_419_0_3_ok 4 rfl)))
  (e_Lok (ps_sipush_1000 (x_dk dn_419_0_3_ok 5 rfl)))))
  (e_Tok2
  (e_Tok2
  (e_Lok (ld_iload_n_1 (x_dk dn_419_0_3_ok 6 rfl)))
  (e_Lok (sm_imul (x_dk dn_419_0_3_ok 7 rfl))))
  (e_Tok2
  (e_Lok (sm_iadd (x_dk dn_419_0_3_ok 8 rfl)))
  (e_Lok (ld_iload_4 (x_dk dn_419_0_3_ok 9 rfl))))))
  (e_Tok2
  (e_Tok2
  (e_Tok2
  (e_Lok (sm_iadd (x_dk dn_419_0_3_ok 10 rfl)))
  (e_Lok (ps_iconst_1 (x_dk dn_419_0_3_ok 11 rfl))))
  (e_Tok2
  (e_Lok (sm_isub (x_dk dn_419_0_3_ok 12 rfl)))
  (e_Lok (sm_iaload (x_dk dn_419_0_3_ok 13 rfl)))))
  (e_Tok2
  (e_Tok2
  (e_Lok (e_st (I := eI) (er_icmpeq (off := 7) (tg := 155) (x_dk dn_419_0_3_ok 14 rfl) (by decide)) nx_if2))
  (e_Lok (ps_iconst_1 (x_dk dn_419_0_3_ok 15 rfl))))
  (e_Tok2
  (e_Lok (e_st (I := eI) (er_goto (off := 4) (tg := 156) (x_dk dn_419_0_3_ok 16 rfl) (by decide)) nx_goto))
  (e_Lok (ps_iconst_0 (x_dk dn_419_0_3_ok 17 rfl))))))))
def te_419_93 : Nat → eE := (e_T 179 (e_T 168 (e_T 158 (e_T 156 (e_L 156 (0, ei_bin eF_add 157, 0, 0)) (e_T 157 (e_L 157 (0, ei_stor 3 0 158, 0, 0)) (e_L 158 (0, ei_inc 4 1 161, 0, 0)))) (e_T 164 (e_T 161 (e_L 161 (0, ei_goto 93, 0, 0)) (e_L 164 (0, ei_load 3 0 165, 0, 0))) (e_T 165 (e_L 165 (0, ei_if1 5 193 168, 0, 0)) (e_L 168 (0, ei_load 0 2 169, 0, 0))))) (e_T 175 (e_T 172 (e_T 169 (e_L 169 (0, ei_getf eft elay 12 0 172, 0, 0)) (e_L 172 (0, ei_load 2 0 173, 0, 0))) (e_T 173 (e_L 173 (0, ei_push (0, 6) 175, 0, 0)) (e_L 175 (0, ei_bin eF_add 176, 0, 0)))) (e_T 177 (e_T 176 (e_L 176 (0, ei_push (0, 1) 177, 0, 0)) (e_L 177 (0, ei_ast elay false 178, 0, 0))) (e_T 178 (e_L 178 (0, ei_load 0 2 179, 0, 0)) (e_L 179 (0, ei_getf eft elay 12 0 182, 0, 0)))))) (e_T 190 (e_T 186 (e_T 183 (e_T 182 (e_L 182 (0, ei_load 2 0 183, 0, 0)) (e_L 183 (0, ei_push (0, 7) 185, 0, 0))) (e_T 185 (e_L 185 (0, ei_bin eF_add 186, 0, 0)) (e_L 186 (0, ei_push (0, 0) 187, 0, 0)))) (e_T 188 (e_T 187 (e_L 187 (0, ei_ast elay false 188, 0, 0)) (e_L 188 (0, ei_load 0 2 189, 0, 0))) (e_T 189 (e_L 189 (0, ei_load 1 0 190, 0, 0)) (e_L 190 (2, e_nof, 391, 2))))) (e_T 197 (e_T 194 (e_T 193 (e_L 193 (0, ei_load 0 2 194, 0, 0)) (e_L 194 (0, ei_push (0, 11) 196, 0, 0))) (e_T 196 (e_L 196 (0, ei_load 1 0 197, 0, 0)) (e_L 197 (0, ei_push (0, 0) 198, 0, 0)))) (e_T 199 (e_T 198 (e_L 198 (0, ei_push (0, 0) 199, 0, 0)) (e_L 199 (2, e_nof, 423, 5))) (e_T 202 (e_L 202 (0, ei_load 3 0 203, 0, 0)) (e_L 203 (1, e_nof, 1, 0)))))))
set_option maxRecDepth 20000 in
set_option maxHeartbeats 4000000 in
theorem te_419_93_ok : ∀ pc, e_EOq eft cls elay eI n_419 pc (te_419_93 pc) :=
  (e_Tok2
  (e_Tok2
  (e_Tok2
  (e_Tok2
  (e_Lok (sm_iadd (x_dk dn_419_0_3_ok 18 rfl)))
  (e_Tok2
  (e_Lok (e_st (I := eI) (er_istore_n (i := 3) (x_dk dn_419_0_3_ok 19 rfl) (by decide +kernel)) nx_stor))
  (e_Lok (e_st (I := eI) (er_iinc (i := 4) (n := 1) (x_dk dn_419_0_3_ok 20 rfl) (by decide +kernel) (by decide)) nx_inc))))
  (e_Tok2
  (e_Tok2
  (e_Lok (e_st (I := eI) (er_goto (off := (-68)) (tg := 93) (x_dk dn_419_0_3_ok 21 rfl) (by decide)) nx_goto))
  (e_Lok (ld_iload_n_3 (x_dk dn_419_0_3_ok 22 rfl))))
  (e_Tok2
  (e_Lok (e_st (I := eI) (er_ifle (off := 28) (tg := 193) (x_dk dn_419_0_3_ok 23 rfl) (by decide)) nx_if1))
  (e_Lok (ld_aload_n_0 (x_dk dn_419_0_3_ok 24 rfl))))))
  (e_Tok2
  (e_Tok2
  (e_Tok2
  (e_Lok (lk_12_8g ho_419 (x_dk dn_419_1_0_ok 0 rfl)))
  (e_Lok (ld_iload_n_2 (x_dk dn_419_1_0_ok 1 rfl))))
  (e_Tok2
  (e_Lok (ps_bipush_6 (x_dk dn_419_1_0_ok 2 rfl)))
  (e_Lok (sm_iadd (x_dk dn_419_1_0_ok 3 rfl)))))
  (e_Tok2
  (e_Tok2
  (e_Lok (ps_iconst_1 (x_dk dn_419_1_0_ok 4 rfl)))
  (e_Lok (sm_iastore (x_dk dn_419_1_0_ok 5 rfl))))
  (e_Tok2
  (e_Lok (ld_aload_n_0 (x_dk dn_419_1_0_ok 6 rfl)))
  (e_Lok (lk_12_8g ho_419 (x_dk dn_419_1_0_ok 7 rfl)))))))
  (e_Tok2
  (e_Tok2
  (e_Tok2
  (e_Tok2
  (e_Lok (ld_iload_n_2 (x_dk dn_419_1_0_ok 8 rfl)))
  (e_Lok (ps_bipush_7 (x_dk dn_419_1_0_ok 9 rfl))))
  (e_Tok2
  (e_Lok (sm_iadd (x_dk dn_419_1_0_ok 10 rfl)))
  (e_Lok (ps_iconst_0 (x_dk dn_419_1_0_ok 11 rfl)))))
  (e_Tok2
  (e_Tok2
  (e_Lok (sm_iastore (x_dk dn_419_1_0_ok 12 rfl)))
  (e_Lok (ld_aload_n_0 (x_dk dn_419_1_0_ok 13 rfl))))
  (e_Tok2
  (e_Lok (ld_iload_n_1 (x_dk dn_419_1_0_ok 14 rfl)))
  (e_Lok (lk_12_768 ho_419 (x_dk dn_419_1_0_ok 15 rfl))))))
  (e_Tok2
  (e_Tok2
  (e_Tok2
  (e_Lok (ld_aload_n_0 (x_dk dn_419_1_0_ok 16 rfl)))
  (e_Lok (ps_bipush_11 (x_dk dn_419_1_0_ok 17 rfl))))
  (e_Tok2
  (e_Lok (ld_iload_n_1 (x_dk dn_419_1_0_ok 18 rfl)))
  (e_Lok (ps_iconst_0 (x_dk dn_419_1_0_ok 19 rfl)))))
  (e_Tok2
  (e_Tok2
  (e_Lok (ps_iconst_0 (x_dk dn_419_1_0_ok 20 rfl)))
  (e_Lok (lk_12_866 ho_419 (x_dk dn_419_1_0_ok 21 rfl))))
  (e_Tok2
  (e_Lok (ld_iload_n_3 (x_dk dn_419_1_0_ok 22 rfl)))
  (e_Lok (e_rt (I := eI) (k := 1) ⟨(x_dk dn_419_1_0_ok 23 rfl), rfl⟩)))))))
def te_419 : Nat → eE := (e_T 101 (e_T 50 te_419_0 te_419_31) (e_T 155 te_419_62 te_419_93))
theorem te_419_ok : ∀ pc, e_EOq eft cls elay eI n_419 pc (te_419 pc) := (e_Tok2 ((e_Tok2 (te_419_0_ok) (te_419_31_ok))) ((e_Tok2 (te_419_62_ok) (te_419_93_ok))))
theorem ho_420 : (xm_y n_420).cls = "RobotCellHouseModel" := rfl
def dn_420_0_0 : List (Nat × Instr × Nat) := [(0, .aload_n 0, 1), (1, .getfield 288, 3), (4, .ifCond .ne 7, 3), (7, .iconst 0, 1), (8, .goto 14, 3), (11, .aload_n 0, 1), (12, .getfield 256, 3), (15, .aload_n 0, 1), (16, .getfield 288, 3), (19, .iconst 1, 1), (20, .isub, 1), (21, .iaload, 1), (22, .istore_n 3, 1), (23, .iload_n 2, 1), (24, .ifCond .eq 15, 3), (27, .iload_n 3, 1), (28, .iload_n 1, 1), (29, .iadd, 1), (30, .ldc 249, 2), (32, .if_icmp .gt 7, 3), (35, .iconst 1, 1), (36, .goto 4, 3), (39, .iconst 0, 1), (40, .istore 4, 2), (42, .iconst 0, 1)]
set_option maxRecDepth 20000 in
theorem dn_420_0_0_ok : dn_420_0_0.all (fun q => decide (decode (xm_b n_420) q.1 = .ok (q.2.1, q.2.2))) = true := xa_g_ok (by decide +kernel)
def dn_420_0_1 : List (Nat × Instr × Nat) := [(43, .istore 5, 2), (45, .iload 5, 2), (47, .iload_n 1, 1), (48, .if_icmp .ge 30, 3), (51, .iload 4, 2), (53, .ifCond .eq 25, 3), (56, .aload_n 0, 1), (57, .getfield 250, 3), (60, .iload_n 3, 1), (61, .iload 5, 2), (63, .iadd, 1), (64, .aload_n 0, 1), (65, .getfield 246, 3), (68, .iload 5, 2), (70, .iaload, 1), (71, .iastore, 1), (72, .iinc 5 1, 3), (75, .goto (-30), 3), (78, .aload_n 0, 1), (79, .getfield 253, 3), (82, .aload_n 0, 1), (83, .getfield 288, 3), (86, .iload 4, 2), (88, .ifCond .eq 7, 3), (91, .iload_n 3, 1)]
set_option maxRecDepth 20000 in
theorem dn_420_0_1_ok : dn_420_0_1.all (fun q => decide (decode (xm_b n_420) q.1 = .ok (q.2.1, q.2.2))) = true := xa_g_ok (by decide +kernel)
def dn_420_0_2 : List (Nat × Instr × Nat) := [(92, .goto 4, 3), (95, .iconst (-1), 1), (96, .iastore, 1), (97, .aload_n 0, 1), (98, .getfield 256, 3), (101, .aload_n 0, 1), (102, .getfield 288, 3), (105, .iload 4, 2), (107, .ifCond .eq 9, 3), (110, .iload_n 3, 1), (111, .iload_n 1, 1), (112, .iadd, 1), (113, .goto 4, 3), (116, .iload_n 3, 1), (117, .iastore, 1), (118, .return_, 1)]
set_option maxRecDepth 20000 in
theorem dn_420_0_2_ok : dn_420_0_2.all (fun q => decide (decode (xm_b n_420) q.1 = .ok (q.2.1, q.2.2))) = true := xa_g_ok (by decide +kernel)
def te_420_0 : Nat → eE := (e_T 27 (e_T 15 (e_T 7 (e_T 1 (e_T 0 (e_L 0 (0, ei_load 0 2 1, 0, 0)) (e_L 1 (0, ei_getf eft elay 12 5 4, 0, 0))) (e_T 4 (e_L 4 (0, ei_if1 1 11 7, 0, 0)) (e_L 7 (0, ei_push (0, 0) 8, 0, 0)))) (e_T 11 (e_T 8 (e_L 8 (0, ei_goto 22, 0, 0)) (e_L 11 (0, ei_load 0 2 12, 0, 0))) (e_T 12 (e_L 12 (0, ei_getf eft elay 12 116 15, 0, 0)) (e_L 15 (0, ei_load 0 2 16, 0, 0))))) (e_T 21 (e_T 19 (e_T 16 (e_L 16 (0, ei_getf eft elay 12 5 19, 0, 0)) (e_L 19 (0, ei_push (0, 1) 20, 0, 0))) (e_T 20 (e_L 20 (0, ei_bin eF_sub 21, 0, 0)) (e_L 21 (0, ei_ald elay false 22, 0, 0)))) (e_T 23 (e_T 22 (e_L 22 (0, ei_stor 3 0 23, 0, 0)) (e_L 23 (0, ei_load 2 0 24, 0, 0))) (e_T 24 (e_L 24 (0, ei_if1 0 39 27, 0, 0)) (e_L 27 (0, ei_load 3 0 28, 0, 0)))))) (e_T 40 (e_T 32 (e_T 29 (e_T 28 (e_L 28 (0, ei_load 1 0 29, 0, 0)) (e_L 29 (0, ei_bin eF_add 30, 0, 0))) (e_T 30 (e_L 30 (0, ei_push (0, 200000) 32, 0, 0)) (e_L 32 (0, ei_if2 4 39 35, 0, 0)))) (e_T 36 (e_T 35 (e_L 35 (0, ei_push (0, 1) 36, 0, 0)) (e_L 36 (0, ei_goto 40, 0, 0))) (e_T 39 (e_L 39 (0, ei_push (0, 0) 40, 0, 0)) (e_L 40 (0, ei_stor 4 0 42, 0, 0))))) (e_T 47 (e_T 43 (e_T 42 (e_L 42 (0, ei_push (0, 0) 43, 0, 0)) (e_L 43 (0, ei_stor 5 0 45, 0, 0))) (e_T 45 (e_L 45 (0, ei_load 5 0 47, 0, 0)) (e_L 47 (0, ei_load 1 0 48, 0, 0)))) (e_T 51 (e_T 48 (e_L 48 (0, ei_if2 3 78 51, 0, 0)) (e_L 51 (0, ei_load 4 0 53, 0, 0))) (e_T 53 (e_L 53 (0, ei_if1 0 78 56, 0, 0)) (e_T 56 (e_L 56 (0, ei_load 0 2 57, 0, 0)) (e_L 57 (0, ei_getf eft elay 12 114 60, 0, 0))))))))
set_option maxRecDepth 20000 in
set_option maxHeartbeats 4000000 in
theorem te_420_0_ok : ∀ pc, e_EOq eft cls elay eI n_420 pc (te_420_0 pc) :=
  (e_Tok2
  (e_Tok2
  (e_Tok2
  (e_Tok2
  (e_Tok2
  (e_Lok (ld_aload_n_0 (x_dk dn_420_0_0_ok 0 rfl)))
  (e_Lok (lk_12_288g ho_420 (x_dk dn_420_0_0_ok 1 rfl))))
  (e_Tok2
  (e_Lok (e_st (I := eI) (er_ifne (off := 7) (tg := 11) (x_dk dn_420_0_0_ok 2 rfl) (by decide)) nx_if1))
  (e_Lok (ps_iconst_0 (x_dk dn_420_0_0_ok 3 rfl)))))
  (e_Tok2
  (e_Tok2
  (e_Lok (e_st (I := eI) (er_goto (off := 14) (tg := 22) (x_dk dn_420_0_0_ok 4 rfl) (by decide)) nx_goto))
  (e_Lok (ld_aload_n_0 (x_dk dn_420_0_0_ok 5 rfl))))
  (e_Tok2
  (e_Lok (lk_12_256g ho_420 (x_dk dn_420_0_0_ok 6 rfl)))
  (e_Lok (ld_aload_n_0 (x_dk dn_420_0_0_ok 7 rfl))))))
  (e_Tok2
  (e_Tok2
  (e_Tok2
  (e_Lok (lk_12_288g ho_420 (x_dk dn_420_0_0_ok 8 rfl)))
  (e_Lok (ps_iconst_1 (x_dk dn_420_0_0_ok 9 rfl))))
  (e_Tok2
  (e_Lok (sm_isub (x_dk dn_420_0_0_ok 10 rfl)))
  (e_Lok (sm_iaload (x_dk dn_420_0_0_ok 11 rfl)))))
  (e_Tok2
  (e_Tok2
  (e_Lok (e_st (I := eI) (er_istore_n (i := 3) (x_dk dn_420_0_0_ok 12 rfl) (by decide +kernel)) nx_stor))
  (e_Lok (ld_iload_n_2 (x_dk dn_420_0_0_ok 13 rfl))))
  (e_Tok2
  (e_Lok (e_st (I := eI) (er_ifeq (off := 15) (tg := 39) (x_dk dn_420_0_0_ok 14 rfl) (by decide)) nx_if1))
  (e_Lok (ld_iload_n_3 (x_dk dn_420_0_0_ok 15 rfl)))))))
  (e_Tok2
  (e_Tok2
  (e_Tok2
  (e_Tok2
  (e_Lok (ld_iload_n_1 (x_dk dn_420_0_0_ok 16 rfl)))
  (e_Lok (sm_iadd (x_dk dn_420_0_0_ok 17 rfl))))
  (e_Tok2
  (e_Lok (e_st (I := eI) (er_ldc (ix := 249) (z := 200000) (v := 200000) (x_dk dn_420_0_0_ok 18 rfl) (in_t9 (List.mem_of_getElem? (i := 89) rfl) rfl) (by decide)) (nx_push (Or.inl rfl))))
  (e_Lok (e_st (I := eI) (er_icmpgt (off := 7) (tg := 39) (x_dk dn_420_0_0_ok 19 rfl) (by decide)) nx_if2))))
  (e_Tok2
  (e_Tok2
  (e_Lok (ps_iconst_1 (x_dk dn_420_0_0_ok 20 rfl)))
  (e_Lok (e_st (I := eI) (er_goto (off := 4) (tg := 40) (x_dk dn_420_0_0_ok 21 rfl) (by decide)) nx_goto)))
  (e_Tok2
  (e_Lok (ps_iconst_0 (x_dk dn_420_0_0_ok 22 rfl)))
  (e_Lok (e_st (I := eI) (er_istore (i := 4) (x_dk dn_420_0_0_ok 23 rfl) (by decide +kernel)) nx_stor)))))
  (e_Tok2
  (e_Tok2
  (e_Tok2
  (e_Lok (ps_iconst_0 (x_dk dn_420_0_0_ok 24 rfl)))
  (e_Lok (e_st (I := eI) (er_istore (i := 5) (x_dk dn_420_0_1_ok 0 rfl) (by decide +kernel)) nx_stor)))
  (e_Tok2
  (e_Lok (ld_iload_5 (x_dk dn_420_0_1_ok 1 rfl)))
  (e_Lok (ld_iload_n_1 (x_dk dn_420_0_1_ok 2 rfl)))))
  (e_Tok2
  (e_Tok2
  (e_Lok (e_st (I := eI) (er_icmpge (off := 30) (tg := 78) (x_dk dn_420_0_1_ok 3 rfl) (by decide)) nx_if2))
  (e_Lok (ld_iload_4 (x_dk dn_420_0_1_ok 4 rfl))))
  (e_Tok2
  (e_Lok (e_st (I := eI) (er_ifeq (off := 25) (tg := 78) (x_dk dn_420_0_1_ok 5 rfl) (by decide)) nx_if1))
  (e_Tok2
  (e_Lok (ld_aload_n_0 (x_dk dn_420_0_1_ok 6 rfl)))
  (e_Lok (lk_12_250g ho_420 (x_dk dn_420_0_1_ok 7 rfl)))))))))
def te_420_33 : Nat → eE := (e_T 88 (e_T 71 (e_T 64 (e_T 61 (e_T 60 (e_L 60 (0, ei_load 3 0 61, 0, 0)) (e_L 61 (0, ei_load 5 0 63, 0, 0))) (e_T 63 (e_L 63 (0, ei_bin eF_add 64, 0, 0)) (e_L 64 (0, ei_load 0 2 65, 0, 0)))) (e_T 68 (e_T 65 (e_L 65 (0, ei_getf eft elay 12 113 68, 0, 0)) (e_L 68 (0, ei_load 5 0 70, 0, 0))) (e_T 70 (e_L 70 (0, ei_ald elay false 71, 0, 0)) (e_L 71 (0, ei_ast elay false 72, 0, 0))))) (e_T 79 (e_T 75 (e_T 72 (e_L 72 (0, ei_inc 5 1 75, 0, 0)) (e_L 75 (0, ei_goto 45, 0, 0))) (e_T 78 (e_L 78 (0, ei_load 0 2 79, 0, 0)) (e_L 79 (0, ei_getf eft elay 12 115 82, 0, 0)))) (e_T 83 (e_T 82 (e_L 82 (0, ei_load 0 2 83, 0, 0)) (e_L 83 (0, ei_getf eft elay 12 5 86, 0, 0))) (e_T 86 (e_L 86 (0, ei_load 4 0 88, 0, 0)) (e_L 88 (0, ei_if1 0 95 91, 0, 0)))))) (e_T 102 (e_T 96 (e_T 92 (e_T 91 (e_L 91 (0, ei_load 3 0 92, 0, 0)) (e_L 92 (0, ei_goto 96, 0, 0))) (e_T 95 (e_L 95 (0, ei_push (0, (-1)) 96, 0, 0)) (e_L 96 (0, ei_ast elay false 97, 0, 0)))) (e_T 98 (e_T 97 (e_L 97 (0, ei_load 0 2 98, 0, 0)) (e_L 98 (0, ei_getf eft elay 12 116 101, 0, 0))) (e_T 101 (e_L 101 (0, ei_load 0 2 102, 0, 0)) (e_L 102 (0, ei_getf eft elay 12 5 105, 0, 0))))) (e_T 111 (e_T 107 (e_T 105 (e_L 105 (0, ei_load 4 0 107, 0, 0)) (e_L 107 (0, ei_if1 0 116 110, 0, 0))) (e_T 110 (e_L 110 (0, ei_load 3 0 111, 0, 0)) (e_L 111 (0, ei_load 1 0 112, 0, 0)))) (e_T 113 (e_T 112 (e_L 112 (0, ei_bin eF_add 113, 0, 0)) (e_L 113 (0, ei_goto 117, 0, 0))) (e_T 116 (e_L 116 (0, ei_load 3 0 117, 0, 0)) (e_T 117 (e_L 117 (0, ei_ast elay false 118, 0, 0)) (e_L 118 (1, e_nof, 0, 0))))))))
set_option maxRecDepth 20000 in
set_option maxHeartbeats 4000000 in
theorem te_420_33_ok : ∀ pc, e_EOq eft cls elay eI n_420 pc (te_420_33 pc) :=
  (e_Tok2
  (e_Tok2
  (e_Tok2
  (e_Tok2
  (e_Tok2
  (e_Lok (ld_iload_n_3 (x_dk dn_420_0_1_ok 8 rfl)))
  (e_Lok (ld_iload_5 (x_dk dn_420_0_1_ok 9 rfl))))
  (e_Tok2
  (e_Lok (sm_iadd (x_dk dn_420_0_1_ok 10 rfl)))
  (e_Lok (ld_aload_n_0 (x_dk dn_420_0_1_ok 11 rfl)))))
  (e_Tok2
  (e_Tok2
  (e_Lok (lk_12_246g ho_420 (x_dk dn_420_0_1_ok 12 rfl)))
  (e_Lok (ld_iload_5 (x_dk dn_420_0_1_ok 13 rfl))))
  (e_Tok2
  (e_Lok (sm_iaload (x_dk dn_420_0_1_ok 14 rfl)))
  (e_Lok (sm_iastore (x_dk dn_420_0_1_ok 15 rfl))))))
  (e_Tok2
  (e_Tok2
  (e_Tok2
  (e_Lok (e_st (I := eI) (er_iinc (i := 5) (n := 1) (x_dk dn_420_0_1_ok 16 rfl) (by decide +kernel) (by decide)) nx_inc))
  (e_Lok (e_st (I := eI) (er_goto (off := (-30)) (tg := 45) (x_dk dn_420_0_1_ok 17 rfl) (by decide)) nx_goto)))
  (e_Tok2
  (e_Lok (ld_aload_n_0 (x_dk dn_420_0_1_ok 18 rfl)))
  (e_Lok (lk_12_253g ho_420 (x_dk dn_420_0_1_ok 19 rfl)))))
  (e_Tok2
  (e_Tok2
  (e_Lok (ld_aload_n_0 (x_dk dn_420_0_1_ok 20 rfl)))
  (e_Lok (lk_12_288g ho_420 (x_dk dn_420_0_1_ok 21 rfl))))
  (e_Tok2
  (e_Lok (ld_iload_4 (x_dk dn_420_0_1_ok 22 rfl)))
  (e_Lok (e_st (I := eI) (er_ifeq (off := 7) (tg := 95) (x_dk dn_420_0_1_ok 23 rfl) (by decide)) nx_if1))))))
  (e_Tok2
  (e_Tok2
  (e_Tok2
  (e_Tok2
  (e_Lok (ld_iload_n_3 (x_dk dn_420_0_1_ok 24 rfl)))
  (e_Lok (e_st (I := eI) (er_goto (off := 4) (tg := 96) (x_dk dn_420_0_2_ok 0 rfl) (by decide)) nx_goto)))
  (e_Tok2
  (e_Lok (ps_iconst_m1 (x_dk dn_420_0_2_ok 1 rfl)))
  (e_Lok (sm_iastore (x_dk dn_420_0_2_ok 2 rfl)))))
  (e_Tok2
  (e_Tok2
  (e_Lok (ld_aload_n_0 (x_dk dn_420_0_2_ok 3 rfl)))
  (e_Lok (lk_12_256g ho_420 (x_dk dn_420_0_2_ok 4 rfl))))
  (e_Tok2
  (e_Lok (ld_aload_n_0 (x_dk dn_420_0_2_ok 5 rfl)))
  (e_Lok (lk_12_288g ho_420 (x_dk dn_420_0_2_ok 6 rfl))))))
  (e_Tok2
  (e_Tok2
  (e_Tok2
  (e_Lok (ld_iload_4 (x_dk dn_420_0_2_ok 7 rfl)))
  (e_Lok (e_st (I := eI) (er_ifeq (off := 9) (tg := 116) (x_dk dn_420_0_2_ok 8 rfl) (by decide)) nx_if1)))
  (e_Tok2
  (e_Lok (ld_iload_n_3 (x_dk dn_420_0_2_ok 9 rfl)))
  (e_Lok (ld_iload_n_1 (x_dk dn_420_0_2_ok 10 rfl)))))
  (e_Tok2
  (e_Tok2
  (e_Lok (sm_iadd (x_dk dn_420_0_2_ok 11 rfl)))
  (e_Lok (e_st (I := eI) (er_goto (off := 4) (tg := 117) (x_dk dn_420_0_2_ok 12 rfl) (by decide)) nx_goto)))
  (e_Tok2
  (e_Lok (ld_iload_n_3 (x_dk dn_420_0_2_ok 13 rfl)))
  (e_Tok2
  (e_Lok (sm_iastore (x_dk dn_420_0_2_ok 14 rfl)))
  (e_Lok (e_rt (I := eI) (k := 0) ⟨(x_dk dn_420_0_2_ok 15 rfl), rfl⟩))))))))
def te_420 : Nat → eE := (e_T 57 te_420_0 te_420_33)
theorem te_420_ok : ∀ pc, e_EOq eft cls elay eI n_420 pc (te_420 pc) := (e_Tok2 (te_420_0_ok) (te_420_33_ok))
theorem ho_421 : (xm_y n_421).cls = "RobotCellHouseModel" := rfl
def dn_421_0_0 : List (Nat × Instr × Nat) := [(0, .aload_n 0, 1), (1, .getfield 256, 3), (4, .iload_n 1, 1), (5, .iaload, 1), (6, .aload_n 0, 1), (7, .getfield 253, 3), (10, .iload_n 1, 1), (11, .iaload, 1), (12, .isub, 1), (13, .istore_n 2, 1), (14, .iconst 0, 1), (15, .istore_n 3, 1), (16, .iload_n 3, 1), (17, .iload_n 2, 1), (18, .if_icmp .ge 28, 3), (21, .aload_n 0, 1), (22, .getfield 246, 3), (25, .iload_n 3, 1), (26, .aload_n 0, 1), (27, .getfield 250, 3), (30, .aload_n 0, 1), (31, .getfield 253, 3), (34, .iload_n 1, 1), (35, .iaload, 1), (36, .iload_n 3, 1)]
set_option maxRecDepth 20000 in
theorem dn_421_0_0_ok : dn_421_0_0.all (fun q => decide (decode (xm_b n_421) q.1 = .ok (q.2.1, q.2.2))) = true := xa_g_ok (by decide +kernel)
def dn_421_0_1 : List (Nat × Instr × Nat) := [(37, .iadd, 1), (38, .iaload, 1), (39, .iastore, 1), (40, .iinc 3 1, 3), (43, .goto (-27), 3), (46, .iload_n 2, 1), (47, .ireturn, 1)]
set_option maxRecDepth 20000 in
theorem dn_421_0_1_ok : dn_421_0_1.all (fun q => decide (decode (xm_b n_421) q.1 = .ok (q.2.1, q.2.2))) = true := xa_g_ok (by decide +kernel)
def te_421_0 : Nat → eE := (e_T 21 (e_T 11 (e_T 5 (e_T 1 (e_T 0 (e_L 0 (0, ei_load 0 2 1, 0, 0)) (e_L 1 (0, ei_getf eft elay 12 116 4, 0, 0))) (e_T 4 (e_L 4 (0, ei_load 1 0 5, 0, 0)) (e_L 5 (0, ei_ald elay false 6, 0, 0)))) (e_T 7 (e_T 6 (e_L 6 (0, ei_load 0 2 7, 0, 0)) (e_L 7 (0, ei_getf eft elay 12 115 10, 0, 0))) (e_T 10 (e_L 10 (0, ei_load 1 0 11, 0, 0)) (e_L 11 (0, ei_ald elay false 12, 0, 0))))) (e_T 15 (e_T 13 (e_T 12 (e_L 12 (0, ei_bin eF_sub 13, 0, 0)) (e_L 13 (0, ei_stor 2 0 14, 0, 0))) (e_T 14 (e_L 14 (0, ei_push (0, 0) 15, 0, 0)) (e_L 15 (0, ei_stor 3 0 16, 0, 0)))) (e_T 17 (e_T 16 (e_L 16 (0, ei_load 3 0 17, 0, 0)) (e_L 17 (0, ei_load 2 0 18, 0, 0))) (e_T 18 (e_L 18 (0, ei_if2 3 46 21, 0, 0)) (e_L 21 (0, ei_load 0 2 22, 0, 0)))))) (e_T 35 (e_T 27 (e_T 25 (e_T 22 (e_L 22 (0, ei_getf eft elay 12 113 25, 0, 0)) (e_L 25 (0, ei_load 3 0 26, 0, 0))) (e_T 26 (e_L 26 (0, ei_load 0 2 27, 0, 0)) (e_L 27 (0, ei_getf eft elay 12 114 30, 0, 0)))) (e_T 31 (e_T 30 (e_L 30 (0, ei_load 0 2 31, 0, 0)) (e_L 31 (0, ei_getf eft elay 12 115 34, 0, 0))) (e_T 34 (e_L 34 (0, ei_load 1 0 35, 0, 0)) (e_L 35 (0, ei_ald elay false 36, 0, 0))))) (e_T 39 (e_T 37 (e_T 36 (e_L 36 (0, ei_load 3 0 37, 0, 0)) (e_L 37 (0, ei_bin eF_add 38, 0, 0))) (e_T 38 (e_L 38 (0, ei_ald elay false 39, 0, 0)) (e_L 39 (0, ei_ast elay false 40, 0, 0)))) (e_T 43 (e_T 40 (e_L 40 (0, ei_inc 3 1 43, 0, 0)) (e_L 43 (0, ei_goto 16, 0, 0))) (e_T 46 (e_L 46 (0, ei_load 2 0 47, 0, 0)) (e_L 47 (1, e_nof, 1, 0)))))))
set_option maxRecDepth 20000 in
set_option maxHeartbeats 4000000 in
theorem te_421_0_ok : ∀ pc, e_EOq eft cls elay eI n_421 pc (te_421_0 pc) :=
  (e_Tok2
  (e_Tok2
  (e_Tok2
  (e_Tok2
  (e_Tok2
  (e_Lok (ld_aload_n_0 (x_dk dn_421_0_0_ok 0 rfl)))
  (e_Lok (lk_12_256g ho_421 (x_dk dn_421_0_0_ok 1 rfl))))
  (e_Tok2
  (e_Lok (ld_iload_n_1 (x_dk dn_421_0_0_ok 2 rfl)))
  (e_Lok (sm_iaload (x_dk dn_421_0_0_ok 3 rfl)))))
  (e_Tok2
  (e_Tok2
  (e_Lok (ld_aload_n_0 (x_dk dn_421_0_0_ok 4 rfl)))
  (e_Lok (lk_12_253g ho_421 (x_dk dn_421_0_0_ok 5 rfl))))
  (e_Tok2
  (e_Lok (ld_iload_n_1 (x_dk dn_421_0_0_ok 6 rfl)))
  (e_Lok (sm_iaload (x_dk dn_421_0_0_ok 7 rfl))))))
  (e_Tok2
  (e_Tok2
  (e_Tok2
  (e_Lok (sm_isub (x_dk dn_421_0_0_ok 8 rfl)))
  (e_Lok (e_st (I := eI) (er_istore_n (i := 2) (x_dk dn_421_0_0_ok 9 rfl) (by decide +kernel)) nx_stor)))
  (e_Tok2
  (e_Lok (ps_iconst_0 (x_dk dn_421_0_0_ok 10 rfl)))
  (e_Lok (e_st (I := eI) (er_istore_n (i := 3) (x_dk dn_421_0_0_ok 11 rfl) (by decide +kernel)) nx_stor))))
  (e_Tok2
  (e_Tok2
  (e_Lok (ld_iload_n_3 (x_dk dn_421_0_0_ok 12 rfl)))
  (e_Lok (ld_iload_n_2 (x_dk dn_421_0_0_ok 13 rfl))))
  (e_Tok2
  (e_Lok (e_st (I := eI) (er_icmpge (off := 28) (tg := 46) (x_dk dn_421_0_0_ok 14 rfl) (by decide)) nx_if2))
  (e_Lok (ld_aload_n_0 (x_dk dn_421_0_0_ok 15 rfl)))))))
  (e_Tok2
  (e_Tok2
  (e_Tok2
  (e_Tok2
  (e_Lok (lk_12_246g ho_421 (x_dk dn_421_0_0_ok 16 rfl)))
  (e_Lok (ld_iload_n_3 (x_dk dn_421_0_0_ok 17 rfl))))
  (e_Tok2
  (e_Lok (ld_aload_n_0 (x_dk dn_421_0_0_ok 18 rfl)))
  (e_Lok (lk_12_250g ho_421 (x_dk dn_421_0_0_ok 19 rfl)))))
  (e_Tok2
  (e_Tok2
  (e_Lok (ld_aload_n_0 (x_dk dn_421_0_0_ok 20 rfl)))
  (e_Lok (lk_12_253g ho_421 (x_dk dn_421_0_0_ok 21 rfl))))
  (e_Tok2
  (e_Lok (ld_iload_n_1 (x_dk dn_421_0_0_ok 22 rfl)))
  (e_Lok (sm_iaload (x_dk dn_421_0_0_ok 23 rfl))))))
  (e_Tok2
  (e_Tok2
  (e_Tok2
  (e_Lok (ld_iload_n_3 (x_dk dn_421_0_0_ok 24 rfl)))
  (e_Lok (sm_iadd (x_dk dn_421_0_1_ok 0 rfl))))
  (e_Tok2
  (e_Lok (sm_iaload (x_dk dn_421_0_1_ok 1 rfl)))
  (e_Lok (sm_iastore (x_dk dn_421_0_1_ok 2 rfl)))))
  (e_Tok2
  (e_Tok2
  (e_Lok (e_st (I := eI) (er_iinc (i := 3) (n := 1) (x_dk dn_421_0_1_ok 3 rfl) (by decide +kernel) (by decide)) nx_inc))
  (e_Lok (e_st (I := eI) (er_goto (off := (-27)) (tg := 16) (x_dk dn_421_0_1_ok 4 rfl) (by decide)) nx_goto)))
  (e_Tok2
  (e_Lok (ld_iload_n_2 (x_dk dn_421_0_1_ok 5 rfl)))
  (e_Lok (e_rt (I := eI) (k := 1) ⟨(x_dk dn_421_0_1_ok 6 rfl), rfl⟩)))))))
def te_421 : Nat → eE := te_421_0
theorem te_421_ok : ∀ pc, e_EOq eft cls elay eI n_421 pc (te_421 pc) := te_421_0_ok
theorem ho_422 : (xm_y n_422).cls = "RobotCellHouseModel" := rfl
def dn_422_0_0 : List (Nat × Instr × Nat) := [(0, .aload_n 0, 1), (1, .getfield 288, 3), (4, .sipush 2000, 3), (7, .if_icmp .ne 14, 3), (10, .aload_n 0, 1), (11, .getfield 771, 3), (14, .ifCond .ne 7, 3), (17, .iconst 1, 1), (18, .goto 4, 3), (21, .iconst 0, 1), (22, .ireturn, 1)]
set_option maxRecDepth 20000 in
theorem dn_422_0_0_ok : dn_422_0_0.all (fun q => decide (decode (xm_b n_422) q.1 = .ok (q.2.1, q.2.2))) = true := xa_g_ok (by decide +kernel)
def te_422_0 : Nat → eE := (e_T 10 (e_T 1 (e_T 0 (e_L 0 (0, ei_load 0 2 1, 0, 0)) (e_L 1 (0, ei_getf eft elay 12 5 4, 0, 0))) (e_T 4 (e_L 4 (0, ei_push (0, 2000) 7, 0, 0)) (e_T 7 (e_L 7 (0, ei_if2 1 21 10, 0, 0)) (e_L 10 (0, ei_load 0 2 11, 0, 0))))) (e_T 17 (e_T 11 (e_L 11 (0, ei_getf eft elay 12 6 14, 0, 0)) (e_T 14 (e_L 14 (0, ei_if1 1 21 17, 0, 0)) (e_L 17 (0, ei_push (0, 1) 18, 0, 0)))) (e_T 18 (e_L 18 (0, ei_goto 22, 0, 0)) (e_T 21 (e_L 21 (0, ei_push (0, 0) 22, 0, 0)) (e_L 22 (1, e_nof, 4, 0))))))
set_option maxRecDepth 20000 in
set_option maxHeartbeats 4000000 in
theorem te_422_0_ok : ∀ pc, e_EOq eft cls elay eI n_422 pc (te_422_0 pc) :=
  (e_Tok2
  (e_Tok2
  (e_Tok2
  (e_Lok (ld_aload_n_0 (x_dk dn_422_0_0_ok 0 rfl)))
  (e_Lok (lk_12_288g ho_422 (x_dk dn_422_0_0_ok 1 rfl))))
  (e_Tok2
  (e_Lok (ps_sipush_2000 (x_dk dn_422_0_0_ok 2 rfl)))
  (e_Tok2
  (e_Lok (e_st (I := eI) (er_icmpne (off := 14) (tg := 21) (x_dk dn_422_0_0_ok 3 rfl) (by decide)) nx_if2))
  (e_Lok (ld_aload_n_0 (x_dk dn_422_0_0_ok 4 rfl))))))
  (e_Tok2
  (e_Tok2
  (e_Lok (lk_12_771g ho_422 (x_dk dn_422_0_0_ok 5 rfl)))
  (e_Tok2
  (e_Lok (e_st (I := eI) (er_ifne (off := 7) (tg := 21) (x_dk dn_422_0_0_ok 6 rfl) (by decide)) nx_if1))
  (e_Lok (ps_iconst_1 (x_dk dn_422_0_0_ok 7 rfl)))))
  (e_Tok2
  (e_Lok (e_st (I := eI) (er_goto (off := 4) (tg := 22) (x_dk dn_422_0_0_ok 8 rfl) (by decide)) nx_goto))
  (e_Tok2
  (e_Lok (ps_iconst_0 (x_dk dn_422_0_0_ok 9 rfl)))
  (e_Lok (e_rt (I := eI) (k := 4) ⟨(x_dk dn_422_0_0_ok 10 rfl), rfl⟩))))))
def te_422 : Nat → eE := te_422_0
theorem te_422_ok : ∀ pc, e_EOq eft cls elay eI n_422 pc (te_422 pc) := te_422_0_ok
theorem ho_423 : (xm_y n_423).cls = "RobotCellHouseModel" := rfl
def dn_423_0_0 : List (Nat × Instr × Nat) := [(0, .aload_n 0, 1), (1, .getfield 771, 3), (4, .ifCond .eq 4, 3), (7, .return_, 1), (8, .aload_n 0, 1), (9, .iload_n 1, 1), (10, .bipush 10, 2), (12, .if_icmp .ne 17, 3), (15, .aload_n 0, 1), (16, .getfield 8, 3), (19, .iload_n 2, 1), (20, .invokestatic 294, 3), (23, .iconst 3, 1), (24, .iadd, 1), (25, .iaload, 1), (26, .goto 4, 3), (29, .iconst 0, 1), (30, .iload_n 1, 1), (31, .bipush 10, 2), (33, .if_icmp .ne 7, 3), (36, .iconst 1, 1), (37, .goto 4, 3), (40, .iconst 0, 1), (41, .invokevirtual 870, 3), (44, .aload_n 0, 1)]
set_option maxRecDepth 20000 in
theorem dn_423_0_0_ok : dn_423_0_0.all (fun q => decide (decode (xm_b n_423) q.1 = .ok (q.2.1, q.2.2))) = true := xa_g_ok (by decide +kernel)
def dn_423_0_1 : List (Nat × Instr × Nat) := [(45, .getfield 21, 3), (48, .iconst 4, 1), (49, .aload_n 0, 1), (50, .getfield 288, 3), (53, .imul, 1), (54, .iload_n 1, 1), (55, .iastore, 1), (56, .aload_n 0, 1), (57, .getfield 21, 3), (60, .iconst 4, 1), (61, .aload_n 0, 1), (62, .getfield 288, 3), (65, .imul, 1), (66, .iconst 1, 1), (67, .iadd, 1), (68, .iload_n 2, 1), (69, .iastore, 1), (70, .aload_n 0, 1), (71, .getfield 21, 3), (74, .iconst 4, 1), (75, .aload_n 0, 1), (76, .getfield 288, 3), (79, .imul, 1), (80, .iconst 2, 1), (81, .iadd, 1)]
set_option maxRecDepth 20000 in
theorem dn_423_0_1_ok : dn_423_0_1.all (fun q => decide (decode (xm_b n_423) q.1 = .ok (q.2.1, q.2.2))) = true := xa_g_ok (by decide +kernel)
def dn_423_0_2 : List (Nat × Instr × Nat) := [(82, .iload_n 3, 1), (83, .iastore, 1), (84, .aload_n 0, 1), (85, .getfield 21, 3), (88, .iconst 4, 1), (89, .aload_n 0, 1), (90, .getfield 288, 3), (93, .imul, 1), (94, .iconst 3, 1), (95, .iadd, 1), (96, .iload 4, 2), (98, .iastore, 1), (99, .aload_n 0, 1), (100, .dup, 1), (101, .getfield 288, 3), (104, .iconst 1, 1), (105, .iadd, 1), (106, .putfield 288, 3), (109, .aload_n 0, 1), (110, .getfield 288, 3), (113, .bipush 100, 2), (115, .irem, 1), (116, .ifCond .ne 50, 3), (119, .ldc 7, 2), (121, .aload_n 0, 1)]
set_option maxRecDepth 20000 in
theorem dn_423_0_2_ok : dn_423_0_2.all (fun q => decide (decode (xm_b n_423) q.1 = .ok (q.2.1, q.2.2))) = true := xa_g_ok (by decide +kernel)
def dn_423_0_3 : List (Nat × Instr × Nat) := [(122, .getfield 288, 3), (125, .bipush 100, 2), (127, .idiv, 1), (128, .iconst 1, 1), (129, .isub, 1), (130, .imul, 1), (131, .istore 5, 2), (133, .iconst 0, 1), (134, .istore 6, 2), (136, .iload 6, 2), (138, .ldc 7, 2), (140, .if_icmp .ge 26, 3), (143, .aload_n 0, 1), (144, .getfield 18, 3), (147, .iload 5, 2), (149, .iload 6, 2), (151, .iadd, 1), (152, .aload_n 0, 1), (153, .getfield 8, 3), (156, .iload 6, 2), (158, .iaload, 1), (159, .iastore, 1), (160, .iinc 6 1, 3), (163, .goto (-27), 3), (166, .return_, 1)]
set_option maxRecDepth 20000 in
theorem dn_423_0_3_ok : dn_423_0_3.all (fun q => decide (decode (xm_b n_423) q.1 = .ok (q.2.1, q.2.2))) = true := xa_g_ok (by decide +kernel)
def te_423_0 : Nat → eE := (e_T 20 (e_T 9 (e_T 4 (e_T 0 (e_L 0 (0, ei_load 0 2 1, 0, 0)) (e_T 1 (e_L 1 (0, ei_getf eft elay 12 6 4, 0, 0)) (e_L 4 (0, ei_if1 0 8 7, 0, 0)))) (e_T 7 (e_L 7 (1, e_nof, 0, 0)) (e_T 8 (e_L 8 (0, ei_load 0 2 9, 0, 0)) (e_L 9 (0, ei_load 1 0 10, 0, 0))))) (e_T 15 (e_T 10 (e_L 10 (0, ei_push (0, 10) 12, 0, 0)) (e_T 12 (e_L 12 (0, ei_if2 1 29 15, 0, 0)) (e_L 15 (0, ei_load 0 2 16, 0, 0)))) (e_T 16 (e_L 16 (0, ei_getf eft elay 12 0 19, 0, 0)) (e_T 19 (e_L 19 (0, ei_load 2 0 20, 0, 0)) (e_L 20 (2, e_nof, 268, 1)))))) (e_T 30 (e_T 25 (e_T 23 (e_L 23 (0, ei_push (0, 3) 24, 0, 0)) (e_T 24 (e_L 24 (0, ei_bin eF_add 25, 0, 0)) (e_L 25 (0, ei_ald elay false 26, 0, 0)))) (e_T 26 (e_L 26 (0, ei_goto 30, 0, 0)) (e_T 29 (e_L 29 (0, ei_push (0, 0) 30, 0, 0)) (e_L 30 (0, ei_load 1 0 31, 0, 0))))) (e_T 36 (e_T 31 (e_L 31 (0, ei_push (0, 10) 33, 0, 0)) (e_T 33 (e_L 33 (0, ei_if2 1 40 36, 0, 0)) (e_L 36 (0, ei_push (0, 1) 37, 0, 0)))) (e_T 40 (e_T 37 (e_L 37 (0, ei_goto 41, 0, 0)) (e_L 40 (0, ei_push (0, 0) 41, 0, 0))) (e_T 41 (e_L 41 (2, e_nof, 420, 3)) (e_L 44 (0, ei_load 0 2 45, 0, 0)))))))
set_option maxRecDepth 20000 in
set_option maxHeartbeats 4000000 in
theorem te_423_0_ok : ∀ pc, e_EOq eft cls elay eI n_423 pc (te_423_0 pc) :=
  (e_Tok2
  (e_Tok2
  (e_Tok2
  (e_Tok2
  (e_Lok (ld_aload_n_0 (x_dk dn_423_0_0_ok 0 rfl)))
  (e_Tok2
  (e_Lok (lk_12_771g ho_423 (x_dk dn_423_0_0_ok 1 rfl)))
  (e_Lok (e_st (I := eI) (er_ifeq (off := 4) (tg := 8) (x_dk dn_423_0_0_ok 2 rfl) (by decide)) nx_if1))))
  (e_Tok2
  (e_Lok (e_rt (I := eI) (k := 0) ⟨(x_dk dn_423_0_0_ok 3 rfl), rfl⟩))
  (e_Tok2
  (e_Lok (ld_aload_n_0 (x_dk dn_423_0_0_ok 4 rfl)))
  (e_Lok (ld_iload_n_1 (x_dk dn_423_0_0_ok 5 rfl))))))
  (e_Tok2
  (e_Tok2
  (e_Lok (ps_bipush_10 (x_dk dn_423_0_0_ok 6 rfl)))
  (e_Tok2
  (e_Lok (e_st (I := eI) (er_icmpne (off := 17) (tg := 29) (x_dk dn_423_0_0_ok 7 rfl) (by decide)) nx_if2))
  (e_Lok (ld_aload_n_0 (x_dk dn_423_0_0_ok 8 rfl)))))
  (e_Tok2
  (e_Lok (lk_12_8g ho_423 (x_dk dn_423_0_0_ok 9 rfl)))
  (e_Tok2
  (e_Lok (ld_iload_n_2 (x_dk dn_423_0_0_ok 10 rfl)))
  (e_Lok (lk_12_294 ho_423 (x_dk dn_423_0_0_ok 11 rfl)))))))
  (e_Tok2
  (e_Tok2
  (e_Tok2
  (e_Lok (ps_iconst_3 (x_dk dn_423_0_0_ok 12 rfl)))
  (e_Tok2
  (e_Lok (sm_iadd (x_dk dn_423_0_0_ok 13 rfl)))
  (e_Lok (sm_iaload (x_dk dn_423_0_0_ok 14 rfl)))))
  (e_Tok2
  (e_Lok (e_st (I := eI) (er_goto (off := 4) (tg := 30) (x_dk dn_423_0_0_ok 15 rfl) (by decide)) nx_goto))
  (e_Tok2
  (e_Lok (ps_iconst_0 (x_dk dn_423_0_0_ok 16 rfl)))
  (e_Lok (ld_iload_n_1 (x_dk dn_423_0_0_ok 17 rfl))))))
  (e_Tok2
  (e_Tok2
  (e_Lok (ps_bipush_10 (x_dk dn_423_0_0_ok 18 rfl)))
  (e_Tok2
  (e_Lok (e_st (I := eI) (er_icmpne (off := 7) (tg := 40) (x_dk dn_423_0_0_ok 19 rfl) (by decide)) nx_if2))
  (e_Lok (ps_iconst_1 (x_dk dn_423_0_0_ok 20 rfl)))))
  (e_Tok2
  (e_Tok2
  (e_Lok (e_st (I := eI) (er_goto (off := 4) (tg := 41) (x_dk dn_423_0_0_ok 21 rfl) (by decide)) nx_goto))
  (e_Lok (ps_iconst_0 (x_dk dn_423_0_0_ok 22 rfl))))
  (e_Tok2
  (e_Lok (lk_12_870 ho_423 (x_dk dn_423_0_0_ok 23 rfl)))
  (e_Lok (ld_aload_n_0 (x_dk dn_423_0_0_ok 24 rfl))))))))
def te_423_25 : Nat → eE := (e_T 62 (e_T 54 (e_T 49 (e_T 45 (e_L 45 (0, ei_getf eft elay 12 4 48, 0, 0)) (e_T 48 (e_L 48 (0, ei_push (0, 4) 49, 0, 0)) (e_L 49 (0, ei_load 0 2 50, 0, 0)))) (e_T 50 (e_L 50 (0, ei_getf eft elay 12 5 53, 0, 0)) (e_T 53 (e_L 53 (0, ei_bin eF_mul 54, 0, 0)) (e_L 54 (0, ei_load 1 0 55, 0, 0))))) (e_T 57 (e_T 55 (e_L 55 (0, ei_ast elay false 56, 0, 0)) (e_T 56 (e_L 56 (0, ei_load 0 2 57, 0, 0)) (e_L 57 (0, ei_getf eft elay 12 4 60, 0, 0)))) (e_T 60 (e_L 60 (0, ei_push (0, 4) 61, 0, 0)) (e_T 61 (e_L 61 (0, ei_load 0 2 62, 0, 0)) (e_L 62 (0, ei_getf eft elay 12 5 65, 0, 0)))))) (e_T 70 (e_T 67 (e_T 65 (e_L 65 (0, ei_bin eF_mul 66, 0, 0)) (e_T 66 (e_L 66 (0, ei_push (0, 1) 67, 0, 0)) (e_L 67 (0, ei_bin eF_add 68, 0, 0)))) (e_T 68 (e_L 68 (0, ei_load 2 0 69, 0, 0)) (e_T 69 (e_L 69 (0, ei_ast elay false 70, 0, 0)) (e_L 70 (0, ei_load 0 2 71, 0, 0))))) (e_T 75 (e_T 71 (e_L 71 (0, ei_getf eft elay 12 4 74, 0, 0)) (e_T 74 (e_L 74 (0, ei_push (0, 4) 75, 0, 0)) (e_L 75 (0, ei_load 0 2 76, 0, 0)))) (e_T 79 (e_T 76 (e_L 76 (0, ei_getf eft elay 12 5 79, 0, 0)) (e_L 79 (0, ei_bin eF_mul 80, 0, 0))) (e_T 80 (e_L 80 (0, ei_push (0, 2) 81, 0, 0)) (e_L 81 (0, ei_bin eF_add 82, 0, 0)))))))
set_option maxRecDepth 20000 in
set_option maxHeartbeats 4000000 in
theorem te_423_25_ok : ∀ pc, e_EOq eft cls elay eI n_423 pc (te_423_25 pc) :=
  (e_Tok2
  (e_Tok2
  (e_Tok2
  (e_Tok2
  (e_Lok (lk_12_21g ho_423 (x_dk dn_423_0_1_ok 0 rfl)))
  (e_Tok2
  (e_Lok (ps_iconst_4 (x_dk dn_423_0_1_ok 1 rfl)))
  (e_Lok (ld_aload_n_0 (x_dk dn_423_0_1_ok 2 rfl)))))
  (e_Tok2
  (e_Lok (lk_12_288g ho_423 (x_dk dn_423_0_1_ok 3 rfl)))
  (e_Tok2
  (e_Lok (sm_imul (x_dk dn_423_0_1_ok 4 rfl)))
  (e_Lok (ld_iload_n_1 (x_dk dn_423_0_1_ok 5 rfl))))))
  (e_Tok2
  (e_Tok2
  (e_Lok (sm_iastore (x_dk dn_423_0_1_ok 6 rfl)))
  (e_Tok2
  (e_Lok (ld_aload_n_0 (x_dk dn_423_0_1_ok 7 rfl)))
  (e_Lok (lk_12_21g ho_423 (x_dk dn_423_0_1_ok 8 rfl)))))
  (e_Tok2
  (e_Lok (ps_iconst_4 (x_dk dn_423_0_1_ok 9 rfl)))
  (e_Tok2
  (e_Lok (ld_aload_n_0 (x_dk dn_423_0_1_ok 10 rfl)))
  (e_Lok (lk_12_288g ho_423 (x_dk dn_423_0_1_ok 11 rfl)))))))
  (e_Tok2
  (e_Tok2
  (e_Tok2
  (e_Lok (sm_imul (x_dk dn_423_0_1_ok 12 rfl)))
  (e_Tok2
  (e_Lok (ps_iconst_1 (x_dk dn_423_0_1_ok 13 rfl)))
  (e_Lok (sm_iadd (x_dk dn_423_0_1_ok 14 rfl)))))
  (e_Tok2
  (e_Lok (ld_iload_n_2 (x_dk dn_423_0_1_ok 15 rfl)))
  (e_Tok2
  (e_Lok (sm_iastore (x_dk dn_423_0_1_ok 16 rfl)))
  (e_Lok (ld_aload_n_0 (x_dk dn_423_0_1_ok 17 rfl))))))
  (e_Tok2
  (e_Tok2
  (e_Lok (lk_12_21g ho_423 (x_dk dn_423_0_1_ok 18 rfl)))
  (e_Tok2
  (e_Lok (ps_iconst_4 (x_dk dn_423_0_1_ok 19 rfl)))
  (e_Lok (ld_aload_n_0 (x_dk dn_423_0_1_ok 20 rfl)))))
  (e_Tok2
  (e_Tok2
  (e_Lok (lk_12_288g ho_423 (x_dk dn_423_0_1_ok 21 rfl)))
  (e_Lok (sm_imul (x_dk dn_423_0_1_ok 22 rfl))))
  (e_Tok2
  (e_Lok (ps_iconst_2 (x_dk dn_423_0_1_ok 23 rfl)))
  (e_Lok (sm_iadd (x_dk dn_423_0_1_ok 24 rfl))))))))
def te_423_50 : Nat → eE := (e_T 98 (e_T 89 (e_T 84 (e_T 82 (e_L 82 (0, ei_load 3 0 83, 0, 0)) (e_T 83 (e_L 83 (0, ei_ast elay false 84, 0, 0)) (e_L 84 (0, ei_load 0 2 85, 0, 0)))) (e_T 85 (e_L 85 (0, ei_getf eft elay 12 4 88, 0, 0)) (e_T 88 (e_L 88 (0, ei_push (0, 4) 89, 0, 0)) (e_L 89 (0, ei_load 0 2 90, 0, 0))))) (e_T 94 (e_T 90 (e_L 90 (0, ei_getf eft elay 12 5 93, 0, 0)) (e_T 93 (e_L 93 (0, ei_bin eF_mul 94, 0, 0)) (e_L 94 (0, ei_push (0, 3) 95, 0, 0)))) (e_T 95 (e_L 95 (0, ei_bin eF_add 96, 0, 0)) (e_T 96 (e_L 96 (0, ei_load 4 0 98, 0, 0)) (e_L 98 (0, ei_ast elay false 99, 0, 0)))))) (e_T 106 (e_T 101 (e_T 99 (e_L 99 (0, ei_load 0 2 100, 0, 0)) (e_T 100 (e_L 100 (0, ei_stk ef_dup 101, 0, 0)) (e_L 101 (0, ei_getf eft elay 12 5 104, 0, 0)))) (e_T 104 (e_L 104 (0, ei_push (0, 1) 105, 0, 0)) (e_T 105 (e_L 105 (0, ei_bin eF_add 106, 0, 0)) (e_L 106 (0, ei_putf eft elay 12 5 0 109, 0, 0))))) (e_T 113 (e_T 109 (e_L 109 (0, ei_load 0 2 110, 0, 0)) (e_T 110 (e_L 110 (0, ei_getf eft elay 12 5 113, 0, 0)) (e_L 113 (0, ei_push (0, 100) 115, 0, 0)))) (e_T 116 (e_T 115 (e_L 115 (0, ei_bin eF_rem 116, 0, 0)) (e_L 116 (0, ei_if1 1 166 119, 0, 0))) (e_T 119 (e_L 119 (0, ei_push (0, 33060) 121, 0, 0)) (e_L 121 (0, ei_load 0 2 122, 0, 0)))))))
set_option maxRecDepth 20000 in
set_option maxHeartbeats 4000000 in
theorem te_423_50_ok : ∀ pc, e_EOq eft cls elay eI n_423 pc (te_423_50 pc) :=
  (e_Tok2
  (e_Tok2
  (e_Tok2
  (e_Tok2
  (e_Lok (ld_iload_n_3 (x_dk dn_423_0_2_ok 0 rfl)))
  (e_Tok2
  (e_Lok (sm_iastore (x_dk dn_423_0_2_ok 1 rfl)))
  (e_Lok (ld_aload_n_0 (x_dk dn_423_0_2_ok 2 rfl)))))
  (e_Tok2
  (e_Lok (lk_12_21g ho_423 (x_dk dn_423_0_2_ok 3 rfl)))
  (e_Tok2
  (e_Lok (ps_iconst_4 (x_dk dn_423_0_2_ok 4 rfl)))
  (e_Lok (ld_aload_n_0 (x_dk dn_423_0_2_ok 5 rfl))))))
  (e_Tok2
  (e_Tok2
  (e_Lok (lk_12_288g ho_423 (x_dk dn_423_0_2_ok 6 rfl)))
  (e_Tok2
  (e_Lok (sm_imul (x_dk dn_423_0_2_ok 7 rfl)))
  (e_Lok (ps_iconst_3 (x_dk dn_423_0_2_ok 8 rfl)))))
  (e_Tok2
  (e_Lok (sm_iadd (x_dk dn_423_0_2_ok 9 rfl)))
  (e_Tok2
  (e_Lok (ld_iload_4 (x_dk dn_423_0_2_ok 10 rfl)))
  (e_Lok (sm_iastore (x_dk dn_423_0_2_ok 11 rfl)))))))
  (e_Tok2
  (e_Tok2
  (e_Tok2
  (e_Lok (ld_aload_n_0 (x_dk dn_423_0_2_ok 12 rfl)))
  (e_Tok2
  (e_Lok (e_st (I := eI) (er_dup (x_dk dn_423_0_2_ok 13 rfl)) (nx_stk bf_dup)))
  (e_Lok (lk_12_288g ho_423 (x_dk dn_423_0_2_ok 14 rfl)))))
  (e_Tok2
  (e_Lok (ps_iconst_1 (x_dk dn_423_0_2_ok 15 rfl)))
  (e_Tok2
  (e_Lok (sm_iadd (x_dk dn_423_0_2_ok 16 rfl)))
  (e_Lok (lk_12_288p ho_423 (x_dk dn_423_0_2_ok 17 rfl))))))
  (e_Tok2
  (e_Tok2
  (e_Lok (ld_aload_n_0 (x_dk dn_423_0_2_ok 18 rfl)))
  (e_Tok2
  (e_Lok (lk_12_288g ho_423 (x_dk dn_423_0_2_ok 19 rfl)))
  (e_Lok (ps_bipush_100 (x_dk dn_423_0_2_ok 20 rfl)))))
  (e_Tok2
  (e_Tok2
  (e_Lok (e_st (I := eI) (er_irem (x_dk dn_423_0_2_ok 21 rfl)) nx_bin))
  (e_Lok (e_st (I := eI) (er_ifne (off := 50) (tg := 166) (x_dk dn_423_0_2_ok 22 rfl) (by decide)) nx_if1)))
  (e_Tok2
  (e_Lok (e_st (I := eI) (er_ldc (ix := 7) (z := 33060) (v := 33060) (x_dk dn_423_0_2_ok 23 rfl) (in_t9 (List.mem_of_getElem? (i := 86) rfl) rfl) (by decide)) (nx_push (Or.inl rfl))))
  (e_Lok (ld_aload_n_0 (x_dk dn_423_0_2_ok 24 rfl))))))))
def te_423_75 : Nat → eE := (e_T 140 (e_T 130 (e_T 127 (e_T 122 (e_L 122 (0, ei_getf eft elay 12 5 125, 0, 0)) (e_T 125 (e_L 125 (0, ei_push (0, 100) 127, 0, 0)) (e_L 127 (0, ei_bin eF_div 128, 0, 0)))) (e_T 128 (e_L 128 (0, ei_push (0, 1) 129, 0, 0)) (e_T 129 (e_L 129 (0, ei_bin eF_sub 130, 0, 0)) (e_L 130 (0, ei_bin eF_mul 131, 0, 0))))) (e_T 134 (e_T 131 (e_L 131 (0, ei_stor 5 0 133, 0, 0)) (e_T 133 (e_L 133 (0, ei_push (0, 0) 134, 0, 0)) (e_L 134 (0, ei_stor 6 0 136, 0, 0)))) (e_T 136 (e_L 136 (0, ei_load 6 0 138, 0, 0)) (e_T 138 (e_L 138 (0, ei_push (0, 33060) 140, 0, 0)) (e_L 140 (0, ei_if2 3 166 143, 0, 0)))))) (e_T 152 (e_T 147 (e_T 143 (e_L 143 (0, ei_load 0 2 144, 0, 0)) (e_T 144 (e_L 144 (0, ei_getf eft elay 12 2 147, 0, 0)) (e_L 147 (0, ei_load 5 0 149, 0, 0)))) (e_T 149 (e_L 149 (0, ei_load 6 0 151, 0, 0)) (e_T 151 (e_L 151 (0, ei_bin eF_add 152, 0, 0)) (e_L 152 (0, ei_load 0 2 153, 0, 0))))) (e_T 158 (e_T 153 (e_L 153 (0, ei_getf eft elay 12 0 156, 0, 0)) (e_T 156 (e_L 156 (0, ei_load 6 0 158, 0, 0)) (e_L 158 (0, ei_ald elay false 159, 0, 0)))) (e_T 160 (e_T 159 (e_L 159 (0, ei_ast elay false 160, 0, 0)) (e_L 160 (0, ei_inc 6 1 163, 0, 0))) (e_T 163 (e_L 163 (0, ei_goto 136, 0, 0)) (e_L 166 (1, e_nof, 0, 0)))))))
set_option maxRecDepth 20000 in
set_option maxHeartbeats 4000000 in
theorem te_423_75_ok : ∀ pc, e_EOq eft cls elay eI n_423 pc (te_423_75 pc) :=
  (e_Tok2
  (e_Tok2
  (e_Tok2
  (e_Tok2
  (e_Lok (lk_12_288g ho_423 (x_dk dn_423_0_3_ok 0 rfl)))
  (e_Tok2
  (e_Lok (ps_bipush_100 (x_dk dn_423_0_3_ok 1 rfl)))
  (e_Lok (e_st (I := eI) (er_idiv (x_dk dn_423_0_3_ok 2 rfl)) nx_bin))))
  (e_Tok2
  (e_Lok (ps_iconst_1 (x_dk dn_423_0_3_ok 3 rfl)))
  (e_Tok2
  (e_Lok (sm_isub (x_dk dn_423_0_3_ok 4 rfl)))
  (e_Lok (sm_imul (x_dk dn_423_0_3_ok 5 rfl))))))
  (e_Tok2
  (e_Tok2
  (e_Lok (e_st (I := eI) (er_istore (i := 5) (x_dk dn_423_0_3_ok 6 rfl) (by decide +kernel)) nx_stor))
  (e_Tok2
  (e_Lok (ps_iconst_0 (x_dk dn_423_0_3_ok 7 rfl)))
  (e_Lok (e_st (I := eI) (er_istore (i := 6) (x_dk dn_423_0_3_ok 8 rfl) (by decide +kernel)) nx_stor))))
  (e_Tok2
  (e_Lok (ld_iload_6 (x_dk dn_423_0_3_ok 9 rfl)))
  (e_Tok2
  (e_Lok (e_st (I := eI) (er_ldc (ix := 7) (z := 33060) (v := 33060) (x_dk dn_423_0_3_ok 10 rfl) (in_t9 (List.mem_of_getElem? (i := 86) rfl) rfl) (by decide)) (nx_push (Or.inl rfl))))
  (e_Lok (e_st (I := eI) (er_icmpge (off := 26) (tg := 166) (x_dk dn_423_0_3_ok 11 rfl) (by decide)) nx_if2))))))
  (e_Tok2
  (e_Tok2
  (e_Tok2
  (e_Lok (ld_aload_n_0 (x_dk dn_423_0_3_ok 12 rfl)))
  (e_Tok2
  (e_Lok (lk_12_18g ho_423 (x_dk dn_423_0_3_ok 13 rfl)))
  (e_Lok (ld_iload_5 (x_dk dn_423_0_3_ok 14 rfl)))))
  (e_Tok2
  (e_Lok (ld_iload_6 (x_dk dn_423_0_3_ok 15 rfl)))
  (e_Tok2
  (e_Lok (sm_iadd (x_dk dn_423_0_3_ok 16 rfl)))
  (e_Lok (ld_aload_n_0 (x_dk dn_423_0_3_ok 17 rfl))))))
  (e_Tok2
  (e_Tok2
  (e_Lok (lk_12_8g ho_423 (x_dk dn_423_0_3_ok 18 rfl)))
  (e_Tok2
  (e_Lok (ld_iload_6 (x_dk dn_423_0_3_ok 19 rfl)))
  (e_Lok (sm_iaload (x_dk dn_423_0_3_ok 20 rfl)))))
  (e_Tok2
  (e_Tok2
  (e_Lok (sm_iastore (x_dk dn_423_0_3_ok 21 rfl)))
  (e_Lok (e_st (I := eI) (er_iinc (i := 6) (n := 1) (x_dk dn_423_0_3_ok 22 rfl) (by decide +kernel) (by decide)) nx_inc)))
  (e_Tok2
  (e_Lok (e_st (I := eI) (er_goto (off := (-27)) (tg := 136) (x_dk dn_423_0_3_ok 23 rfl) (by decide)) nx_goto))
  (e_Lok (e_rt (I := eI) (k := 0) ⟨(x_dk dn_423_0_3_ok 24 rfl), rfl⟩)))))))
def te_423 : Nat → eE := (e_T 81 (e_T 44 te_423_0 te_423_25) (e_T 121 te_423_50 te_423_75))
theorem te_423_ok : ∀ pc, e_EOq eft cls elay eI n_423 pc (te_423 pc) := (e_Tok2 ((e_Tok2 (te_423_0_ok) (te_423_25_ok))) ((e_Tok2 (te_423_50_ok) (te_423_75_ok))))
theorem ho_424 : (xm_y n_424).cls = "RobotCellHouseModel" := rfl
def dn_424_0_0 : List (Nat × Instr × Nat) := [(0, .iload_n 1, 1), (1, .i2l, 1), (2, .lconst 0, 1), (3, .ldc2_w 352, 3), (6, .invokestatic 301, 3), (9, .ireturn, 1)]
set_option maxRecDepth 20000 in
theorem dn_424_0_0_ok : dn_424_0_0.all (fun q => decide (decode (xm_b n_424) q.1 = .ok (q.2.1, q.2.2))) = true := xa_g_ok (by decide +kernel)
def te_424_0 : Nat → eE := (e_T 2 (e_T 0 (e_L 0 (0, ei_load 1 0 1, 0, 0)) (e_T 1 (e_L 1 (0, ei_un (fun x => (4, x)) 2, 0, 0)) (e_L 2 (0, ei_push (4, 0) 3, 0, 0)))) (e_T 3 (e_L 3 (0, ei_push (4, 63) 6, 0, 0)) (e_T 6 (e_L 6 (2, e_nof, 266, 3)) (e_L 9 (1, e_nof, 4, 0)))))
set_option maxRecDepth 20000 in
set_option maxHeartbeats 4000000 in
theorem te_424_0_ok : ∀ pc, e_EOq eft cls elay eI n_424 pc (te_424_0 pc) :=
  (e_Tok2
  (e_Tok2
  (e_Lok (ld_iload_n_1 (x_dk dn_424_0_0_ok 0 rfl)))
  (e_Tok2
  (e_Lok (e_st (I := eI) (er_i2l (x_dk dn_424_0_0_ok 1 rfl)) (nx_un (fun _ => rfl))))
  (e_Lok (ps_lconst_0 (x_dk dn_424_0_0_ok 2 rfl)))))
  (e_Tok2
  (e_Lok (e_st (I := eI) (er_ldc2 (ix := 352) (z := 63) (v := 63) (x_dk dn_424_0_0_ok 3 rfl) (in_t11 (List.mem_of_getElem? (i := 81) rfl) rfl) (by decide)) (nx_push (Or.inl rfl))))
  (e_Tok2
  (e_Lok (lk_12_301 ho_424 (x_dk dn_424_0_0_ok 4 rfl)))
  (e_Lok (e_rt (I := eI) (k := 4) ⟨(x_dk dn_424_0_0_ok 5 rfl), rfl⟩)))))
def te_424 : Nat → eE := te_424_0
theorem te_424_ok : ∀ pc, e_EOq eft cls elay eI n_424 pc (te_424 pc) := te_424_0_ok
theorem ho_425 : (xm_y n_425).cls = "RobotCellHouseModel" := rfl
def dn_425_0_0 : List (Nat × Instr × Nat) := [(0, .aload_n 0, 1), (1, .iload_n 1, 1), (2, .invokevirtual 305, 3), (5, .ifCond .eq 21, 3), (8, .iload_n 2, 1), (9, .i2l, 1), (10, .lconst 0, 1), (11, .aload_n 0, 1), (12, .getfield 201, 3), (15, .iload_n 1, 1), (16, .iaload, 1), (17, .iconst 1, 1), (18, .isub, 1), (19, .i2l, 1), (20, .invokestatic 301, 3), (23, .ifCond .ne 5, 3), (26, .iconst (-1), 1), (27, .ireturn, 1), (28, .aload_n 0, 1), (29, .getfield 265, 3), (32, .ifCond .ne 6, 3), (35, .bipush (-2), 2), (37, .ireturn, 1), (38, .iconst 0, 1), (39, .istore_n 3, 1)]
set_option maxRecDepth 20000 in
theorem dn_425_0_0_ok : dn_425_0_0.all (fun q => decide (decode (xm_b n_425) q.1 = .ok (q.2.1, q.2.2))) = true := xa_g_ok (by decide +kernel)
def dn_425_0_1 : List (Nat × Instr × Nat) := [(40, .iconst 0, 1), (41, .istore 4, 2), (43, .iload 4, 2), (45, .bipush 16, 2), (47, .if_icmp .ge 45, 3), (50, .iload_n 3, 1), (51, .aload_n 0, 1), (52, .getfield 8, 3), (55, .iload 4, 2), (57, .invokestatic 298, 3), (60, .iaload, 1), (61, .ifCond .eq 18, 3), (64, .aload_n 0, 1), (65, .getfield 8, 3), (68, .iload 4, 2), (70, .invokestatic 298, 3), (73, .iaload, 1), (74, .bipush 6, 2), (76, .if_icmp .ne 7, 3), (79, .iconst 1, 1), (80, .goto 4, 3), (83, .iconst 0, 1), (84, .ior, 1), (85, .istore_n 3, 1), (86, .iinc 4 1, 3)]
set_option maxRecDepth 20000 in
theorem dn_425_0_1_ok : dn_425_0_1.all (fun q => decide (decode (xm_b n_425) q.1 = .ok (q.2.1, q.2.2))) = true := xa_g_ok (by decide +kernel)
def dn_425_0_2 : List (Nat × Instr × Nat) := [(89, .goto (-46), 3), (92, .iload_n 3, 1), (93, .ifCond .eq 10, 3), (96, .aload_n 0, 1), (97, .invokevirtual 863, 3), (100, .ifCond .eq 6, 3), (103, .bipush (-3), 2), (105, .ireturn, 1), (106, .aload_n 0, 1), (107, .iload_n 1, 1), (108, .iload_n 2, 1), (109, .invokevirtual 735, 3), (112, .istore 4, 2), (114, .aload_n 0, 1), (115, .iconst 0, 1), (116, .iload_n 1, 1), (117, .iload_n 2, 1), (118, .iconst 0, 1), (119, .invokevirtual 866, 3), (122, .iload 4, 2), (124, .ireturn, 1)]
set_option maxRecDepth 20000 in
theorem dn_425_0_2_ok : dn_425_0_2.all (fun q => decide (decode (xm_b n_425) q.1 = .ok (q.2.1, q.2.2))) = true := xa_g_ok (by decide +kernel)
def te_425_0 : Nat → eE := (e_T 26 (e_T 11 (e_T 5 (e_T 1 (e_T 0 (e_L 0 (0, ei_load 0 2 1, 0, 0)) (e_L 1 (0, ei_load 1 0 2, 0, 0))) (e_T 2 (e_L 2 (2, e_nof, 270, 2)) (e_L 5 (0, ei_if1 0 26 8, 0, 0)))) (e_T 9 (e_T 8 (e_L 8 (0, ei_load 2 0 9, 0, 0)) (e_L 9 (0, ei_un (fun x => (4, x)) 10, 0, 0))) (e_T 10 (e_L 10 (0, ei_push (4, 0) 11, 0, 0)) (e_L 11 (0, ei_load 0 2 12, 0, 0))))) (e_T 17 (e_T 15 (e_T 12 (e_L 12 (0, ei_getf eft elay 12 75 15, 0, 0)) (e_L 15 (0, ei_load 1 0 16, 0, 0))) (e_T 16 (e_L 16 (0, ei_ald elay false 17, 0, 0)) (e_L 17 (0, ei_push (0, 1) 18, 0, 0)))) (e_T 19 (e_T 18 (e_L 18 (0, ei_bin eF_sub 19, 0, 0)) (e_L 19 (0, ei_un (fun x => (4, x)) 20, 0, 0))) (e_T 20 (e_L 20 (2, e_nof, 266, 3)) (e_T 23 (e_L 23 (0, ei_if1 1 28 26, 0, 0)) (e_L 26 (0, ei_push (0, (-1)) 27, 0, 0))))))) (e_T 40 (e_T 32 (e_T 28 (e_T 27 (e_L 27 (1, e_nof, 1, 0)) (e_L 28 (0, ei_load 0 2 29, 0, 0))) (e_T 29 (e_L 29 (0, ei_getf eft elay 12 3 32, 0, 0)) (e_L 32 (0, ei_if1 1 38 35, 0, 0)))) (e_T 37 (e_T 35 (e_L 35 (0, ei_push (0, (-2)) 37, 0, 0)) (e_L 37 (1, e_nof, 1, 0))) (e_T 38 (e_L 38 (0, ei_push (0, 0) 39, 0, 0)) (e_T 39 (e_L 39 (0, ei_stor 3 0 40, 0, 0)) (e_L 40 (0, ei_push (0, 0) 41, 0, 0)))))) (e_T 47 (e_T 43 (e_T 41 (e_L 41 (0, ei_stor 4 0 43, 0, 0)) (e_L 43 (0, ei_load 4 0 45, 0, 0))) (e_T 45 (e_L 45 (0, ei_push (0, 16) 47, 0, 0)) (e_L 47 (0, ei_if2 3 92 50, 0, 0)))) (e_T 51 (e_T 50 (e_L 50 (0, ei_load 3 0 51, 0, 0)) (e_L 51 (0, ei_load 0 2 52, 0, 0))) (e_T 52 (e_L 52 (0, ei_getf eft elay 12 0 55, 0, 0)) (e_T 55 (e_L 55 (0, ei_load 4 0 57, 0, 0)) (e_L 57 (2, e_nof, 269, 1))))))))
set_option maxRecDepth 20000 in
set_option maxHeartbeats 4000000 in
theorem te_425_0_ok : ∀ pc, e_EOq eft cls elay eI n_425 pc (te_425_0 pc) :=
  (e_Tok2
  (e_Tok2
  (e_Tok2
  (e_Tok2
  (e_Tok2
  (e_Lok (ld_aload_n_0 (x_dk dn_425_0_0_ok 0 rfl)))
  (e_Lok (ld_iload_n_1 (x_dk dn_425_0_0_ok 1 rfl))))
  (e_Tok2
  (e_Lok (lk_12_305 ho_425 (x_dk dn_425_0_0_ok 2 rfl)))
  (e_Lok (e_st (I := eI) (er_ifeq (off := 21) (tg := 26) (x_dk dn_425_0_0_ok 3 rfl) (by decide)) nx_if1))))
  (e_Tok2
  (e_Tok2
  (e_Lok (ld_iload_n_2 (x_dk dn_425_0_0_ok 4 rfl)))
  (e_Lok (e_st (I := eI) (er_i2l (x_dk dn_425_0_0_ok 5 rfl)) (nx_un (fun _ => rfl)))))
  (e_Tok2
  (e_Lok (ps_lconst_0 (x_dk dn_425_0_0_ok 6 rfl)))
  (e_Lok (ld_aload_n_0 (x_dk dn_425_0_0_ok 7 rfl))))))
  (e_Tok2
  (e_Tok2
  (e_Tok2
  (e_Lok (lk_12_201g ho_425 (x_dk dn_425_0_0_ok 8 rfl)))
  (e_Lok (ld_iload_n_1 (x_dk dn_425_0_0_ok 9 rfl))))
  (e_Tok2
  (e_Lok (sm_iaload (x_dk dn_425_0_0_ok 10 rfl)))
  (e_Lok (ps_iconst_1 (x_dk dn_425_0_0_ok 11 rfl)))))
  (e_Tok2
  (e_Tok2
  (e_Lok (sm_isub (x_dk dn_425_0_0_ok 12 rfl)))
  (e_Lok (e_st (I := eI) (er_i2l (x_dk dn_425_0_0_ok 13 rfl)) (nx_un (fun _ => rfl)))))
  (e_Tok2
  (e_Lok (lk_12_301 ho_425 (x_dk dn_425_0_0_ok 14 rfl)))
  (e_Tok2
  (e_Lok (e_st (I := eI) (er_ifne (off := 5) (tg := 28) (x_dk dn_425_0_0_ok 15 rfl) (by decide)) nx_if1))
  (e_Lok (ps_iconst_m1 (x_dk dn_425_0_0_ok 16 rfl))))))))
  (e_Tok2
  (e_Tok2
  (e_Tok2
  (e_Tok2
  (e_Lok (e_rt (I := eI) (k := 1) ⟨(x_dk dn_425_0_0_ok 17 rfl), rfl⟩))
  (e_Lok (ld_aload_n_0 (x_dk dn_425_0_0_ok 18 rfl))))
  (e_Tok2
  (e_Lok (lk_12_265g ho_425 (x_dk dn_425_0_0_ok 19 rfl)))
  (e_Lok (e_st (I := eI) (er_ifne (off := 6) (tg := 38) (x_dk dn_425_0_0_ok 20 rfl) (by decide)) nx_if1))))
  (e_Tok2
  (e_Tok2
  (e_Lok (ps_bipush_m2 (x_dk dn_425_0_0_ok 21 rfl)))
  (e_Lok (e_rt (I := eI) (k := 1) ⟨(x_dk dn_425_0_0_ok 22 rfl), rfl⟩)))
  (e_Tok2
  (e_Lok (ps_iconst_0 (x_dk dn_425_0_0_ok 23 rfl)))
  (e_Tok2
  (e_Lok (e_st (I := eI) (er_istore_n (i := 3) (x_dk dn_425_0_0_ok 24 rfl) (by decide +kernel)) nx_stor))
  (e_Lok (ps_iconst_0 (x_dk dn_425_0_1_ok 0 rfl)))))))
  (e_Tok2
  (e_Tok2
  (e_Tok2
  (e_Lok (e_st (I := eI) (er_istore (i := 4) (x_dk dn_425_0_1_ok 1 rfl) (by decide +kernel)) nx_stor))
  (e_Lok (ld_iload_4 (x_dk dn_425_0_1_ok 2 rfl))))
  (e_Tok2
  (e_Lok (ps_bipush_16 (x_dk dn_425_0_1_ok 3 rfl)))
  (e_Lok (e_st (I := eI) (er_icmpge (off := 45) (tg := 92) (x_dk dn_425_0_1_ok 4 rfl) (by decide)) nx_if2))))
  (e_Tok2
  (e_Tok2
  (e_Lok (ld_iload_n_3 (x_dk dn_425_0_1_ok 5 rfl)))
  (e_Lok (ld_aload_n_0 (x_dk dn_425_0_1_ok 6 rfl))))
  (e_Tok2
  (e_Lok (lk_12_8g ho_425 (x_dk dn_425_0_1_ok 7 rfl)))
  (e_Tok2
  (e_Lok (ld_iload_4 (x_dk dn_425_0_1_ok 8 rfl)))
  (e_Lok (lk_12_298 ho_425 (x_dk dn_425_0_1_ok 9 rfl)))))))))
def te_425_35 : Nat → eE := (e_T 93 (e_T 76 (e_T 65 (e_T 61 (e_T 60 (e_L 60 (0, ei_ald elay false 61, 0, 0)) (e_L 61 (0, ei_if1 0 79 64, 0, 0))) (e_T 64 (e_L 64 (0, ei_load 0 2 65, 0, 0)) (e_L 65 (0, ei_getf eft elay 12 0 68, 0, 0)))) (e_T 70 (e_T 68 (e_L 68 (0, ei_load 4 0 70, 0, 0)) (e_L 70 (2, e_nof, 269, 1))) (e_T 73 (e_L 73 (0, ei_ald elay false 74, 0, 0)) (e_T 74 (e_L 74 (0, ei_push (0, 6) 76, 0, 0)) (e_L 76 (0, ei_if2 1 83 79, 0, 0)))))) (e_T 84 (e_T 80 (e_T 79 (e_L 79 (0, ei_push (0, 1) 80, 0, 0)) (e_L 80 (0, ei_goto 84, 0, 0))) (e_T 83 (e_L 83 (0, ei_push (0, 0) 84, 0, 0)) (e_L 84 (0, ei_bin (eB (fun x y => x ||| y)) 85, 0, 0)))) (e_T 86 (e_T 85 (e_L 85 (0, ei_stor 3 0 86, 0, 0)) (e_L 86 (0, ei_inc 4 1 89, 0, 0))) (e_T 89 (e_L 89 (0, ei_goto 43, 0, 0)) (e_T 92 (e_L 92 (0, ei_load 3 0 93, 0, 0)) (e_L 93 (0, ei_if1 0 103 96, 0, 0))))))) (e_T 109 (e_T 103 (e_T 97 (e_T 96 (e_L 96 (0, ei_load 0 2 97, 0, 0)) (e_L 97 (2, e_nof, 422, 1))) (e_T 100 (e_L 100 (0, ei_if1 0 106 103, 0, 0)) (e_L 103 (0, ei_push (0, (-3)) 105, 0, 0)))) (e_T 106 (e_T 105 (e_L 105 (1, e_nof, 1, 0)) (e_L 106 (0, ei_load 0 2 107, 0, 0))) (e_T 107 (e_L 107 (0, ei_load 1 0 108, 0, 0)) (e_T 108 (e_L 108 (0, ei_load 2 0 109, 0, 0)) (e_L 109 (2, e_nof, 359, 3)))))) (e_T 116 (e_T 114 (e_T 112 (e_L 112 (0, ei_stor 4 0 114, 0, 0)) (e_L 114 (0, ei_load 0 2 115, 0, 0))) (e_T 115 (e_L 115 (0, ei_push (0, 0) 116, 0, 0)) (e_L 116 (0, ei_load 1 0 117, 0, 0)))) (e_T 118 (e_T 117 (e_L 117 (0, ei_load 2 0 118, 0, 0)) (e_L 118 (0, ei_push (0, 0) 119, 0, 0))) (e_T 119 (e_L 119 (2, e_nof, 423, 5)) (e_T 122 (e_L 122 (0, ei_load 4 0 124, 0, 0)) (e_L 124 (1, e_nof, 1, 0))))))))
set_option maxRecDepth 20000 in
set_option maxHeartbeats 4000000 in
theorem te_425_35_ok : ∀ pc, e_EOq eft cls elay eI n_425 pc (te_425_35 pc) :=
  (e_Tok2
  (e_Tok2
  (e_Tok2
  (e_Tok2
  (e_Tok2
  (e_Lok (sm_iaload (x_dk dn_425_0_1_ok 10 rfl)))
  (e_Lok (e_st (I := eI) (er_ifeq (off := 18) (tg := 79) (x_dk dn_425_0_1_ok 11 rfl) (by decide)) nx_if1)))
  (e_Tok2
  (e_Lok (ld_aload_n_0 (x_dk dn_425_0_1_ok 12 rfl)))
  (e_Lok (lk_12_8g ho_425 (x_dk dn_425_0_1_ok 13 rfl)))))
  (e_Tok2
  (e_Tok2
  (e_Lok (ld_iload_4 (x_dk dn_425_0_1_ok 14 rfl)))
  (e_Lok (lk_12_298 ho_425 (x_dk dn_425_0_1_ok 15 rfl))))
  (e_Tok2
  (e_Lok (sm_iaload (x_dk dn_425_0_1_ok 16 rfl)))
  (e_Tok2
  (e_Lok (ps_bipush_6 (x_dk dn_425_0_1_ok 17 rfl)))
  (e_Lok (e_st (I := eI) (er_icmpne (off := 7) (tg := 83) (x_dk dn_425_0_1_ok 18 rfl) (by decide)) nx_if2))))))
  (e_Tok2
  (e_Tok2
  (e_Tok2
  (e_Lok (ps_iconst_1 (x_dk dn_425_0_1_ok 19 rfl)))
  (e_Lok (e_st (I := eI) (er_goto (off := 4) (tg := 84) (x_dk dn_425_0_1_ok 20 rfl) (by decide)) nx_goto)))
  (e_Tok2
  (e_Lok (ps_iconst_0 (x_dk dn_425_0_1_ok 21 rfl)))
  (e_Lok (e_st (I := eI) (er_ior (x_dk dn_425_0_1_ok 22 rfl)) nx_bin))))
  (e_Tok2
  (e_Tok2
  (e_Lok (e_st (I := eI) (er_istore_n (i := 3) (x_dk dn_425_0_1_ok 23 rfl) (by decide +kernel)) nx_stor))
  (e_Lok (e_st (I := eI) (er_iinc (i := 4) (n := 1) (x_dk dn_425_0_1_ok 24 rfl) (by decide +kernel) (by decide)) nx_inc)))
  (e_Tok2
  (e_Lok (e_st (I := eI) (er_goto (off := (-46)) (tg := 43) (x_dk dn_425_0_2_ok 0 rfl) (by decide)) nx_goto))
  (e_Tok2
  (e_Lok (ld_iload_n_3 (x_dk dn_425_0_2_ok 1 rfl)))
  (e_Lok (e_st (I := eI) (er_ifeq (off := 10) (tg := 103) (x_dk dn_425_0_2_ok 2 rfl) (by decide)) nx_if1)))))))
  (e_Tok2
  (e_Tok2
  (e_Tok2
  (e_Tok2
  (e_Lok (ld_aload_n_0 (x_dk dn_425_0_2_ok 3 rfl)))
  (e_Lok (lk_12_863 ho_425 (x_dk dn_425_0_2_ok 4 rfl))))
  (e_Tok2
  (e_Lok (e_st (I := eI) (er_ifeq (off := 6) (tg := 106) (x_dk dn_425_0_2_ok 5 rfl) (by decide)) nx_if1))
  (e_Lok (ps_bipush_m3 (x_dk dn_425_0_2_ok 6 rfl)))))
  (e_Tok2
  (e_Tok2
  (e_Lok (e_rt (I := eI) (k := 1) ⟨(x_dk dn_425_0_2_ok 7 rfl), rfl⟩))
  (e_Lok (ld_aload_n_0 (x_dk dn_425_0_2_ok 8 rfl))))
  (e_Tok2
  (e_Lok (ld_iload_n_1 (x_dk dn_425_0_2_ok 9 rfl)))
  (e_Tok2
  (e_Lok (ld_iload_n_2 (x_dk dn_425_0_2_ok 10 rfl)))
  (e_Lok (lk_12_735 ho_425 (x_dk dn_425_0_2_ok 11 rfl)))))))
  (e_Tok2
  (e_Tok2
  (e_Tok2
  (e_Lok (e_st (I := eI) (er_istore (i := 4) (x_dk dn_425_0_2_ok 12 rfl) (by decide +kernel)) nx_stor))
  (e_Lok (ld_aload_n_0 (x_dk dn_425_0_2_ok 13 rfl))))
  (e_Tok2
  (e_Lok (ps_iconst_0 (x_dk dn_425_0_2_ok 14 rfl)))
  (e_Lok (ld_iload_n_1 (x_dk dn_425_0_2_ok 15 rfl)))))
  (e_Tok2
  (e_Tok2
  (e_Lok (ld_iload_n_2 (x_dk dn_425_0_2_ok 16 rfl)))
  (e_Lok (ps_iconst_0 (x_dk dn_425_0_2_ok 17 rfl))))
  (e_Tok2
  (e_Lok (lk_12_866 ho_425 (x_dk dn_425_0_2_ok 18 rfl)))
  (e_Tok2
  (e_Lok (ld_iload_4 (x_dk dn_425_0_2_ok 19 rfl)))
  (e_Lok (e_rt (I := eI) (k := 1) ⟨(x_dk dn_425_0_2_ok 20 rfl), rfl⟩))))))))
def te_425 : Nat → eE := (e_T 57 te_425_0 te_425_35)
theorem te_425_ok : ∀ pc, e_EOq eft cls elay eI n_425 pc (te_425 pc) := (e_Tok2 (te_425_0_ok) (te_425_35_ok))
theorem ho_426 : (xm_y n_426).cls = "RobotCellHouseModel" := rfl
def dn_426_0_0 : List (Nat × Instr × Nat) := [(0, .iload_n 1, 1), (1, .i2l, 1), (2, .lconst 1, 1), (3, .ldc2_w 365, 3), (6, .invokestatic 301, 3), (9, .ifCond .ne 5, 3), (12, .iconst (-1), 1), (13, .ireturn, 1), (14, .aload_n 0, 1), (15, .getfield 265, 3), (18, .ifCond .ne 6, 3), (21, .bipush (-2), 2), (23, .ireturn, 1), (24, .aload_n 0, 1), (25, .getfield 8, 3), (28, .iconst 0, 1), (29, .iaload, 1), (30, .sipush 6000, 3), (33, .if_icmp .eq 10, 3), (36, .aload_n 0, 1), (37, .invokevirtual 863, 3), (40, .ifCond .eq 6, 3), (43, .bipush (-3), 2), (45, .ireturn, 1), (46, .iload_n 1, 1)]
set_option maxRecDepth 20000 in
theorem dn_426_0_0_ok : dn_426_0_0.all (fun q => decide (decode (xm_b n_426) q.1 = .ok (q.2.1, q.2.2))) = true := xa_g_ok (by decide +kernel)
def dn_426_0_1 : List (Nat × Instr × Nat) := [(47, .sipush 6000, 3), (50, .aload_n 0, 1), (51, .getfield 8, 3), (54, .iconst 0, 1), (55, .iaload, 1), (56, .isub, 1), (57, .if_icmp .ge 7, 3), (60, .iload_n 1, 1), (61, .goto 13, 3), (64, .sipush 6000, 3), (67, .aload_n 0, 1), (68, .getfield 8, 3), (71, .iconst 0, 1), (72, .iaload, 1), (73, .isub, 1), (74, .istore_n 2, 1), (75, .iconst 0, 1), (76, .istore_n 3, 1), (77, .iload_n 3, 1), (78, .iload_n 2, 1), (79, .if_icmp .ge 13, 3), (82, .aload_n 0, 1), (83, .invokevirtual 873, 3), (86, .iinc 3 1, 3), (89, .goto (-12), 3)]
set_option maxRecDepth 20000 in
theorem dn_426_0_1_ok : dn_426_0_1.all (fun q => decide (decode (xm_b n_426) q.1 = .ok (q.2.1, q.2.2))) = true := xa_g_ok (by decide +kernel)
def dn_426_0_2 : List (Nat × Instr × Nat) := [(92, .aload_n 0, 1), (93, .iconst 1, 1), (94, .iload_n 1, 1), (95, .iconst 0, 1), (96, .iconst 0, 1), (97, .invokevirtual 866, 3), (100, .iload_n 2, 1), (101, .ireturn, 1)]
set_option maxRecDepth 20000 in
theorem dn_426_0_2_ok : dn_426_0_2.all (fun q => decide (decode (xm_b n_426) q.1 = .ok (q.2.1, q.2.2))) = true := xa_g_ok (by decide +kernel)
def te_426_0 : Nat → eE := (e_T 24 (e_T 12 (e_T 2 (e_T 0 (e_L 0 (0, ei_load 1 0 1, 0, 0)) (e_T 1 (e_L 1 (0, ei_un (fun x => (4, x)) 2, 0, 0)) (e_L 2 (0, ei_push (4, 1) 3, 0, 0)))) (e_T 6 (e_T 3 (e_L 3 (0, ei_push (4, 1000) 6, 0, 0)) (e_L 6 (2, e_nof, 266, 3))) (e_T 9 (e_L 9 (0, ei_if1 1 14 12, 0, 0)) (e_L 12 (0, ei_push (0, (-1)) 13, 0, 0))))) (e_T 15 (e_T 13 (e_L 13 (1, e_nof, 1, 0)) (e_T 14 (e_L 14 (0, ei_load 0 2 15, 0, 0)) (e_L 15 (0, ei_getf eft elay 12 3 18, 0, 0)))) (e_T 21 (e_T 18 (e_L 18 (0, ei_if1 1 24 21, 0, 0)) (e_L 21 (0, ei_push (0, (-2)) 23, 0, 0))) (e_T 23 (e_L 23 (1, e_nof, 1, 0)) (e_L 24 (0, ei_load 0 2 25, 0, 0)))))) (e_T 37 (e_T 29 (e_T 25 (e_L 25 (0, ei_getf eft elay 12 0 28, 0, 0)) (e_T 28 (e_L 28 (0, ei_push (0, 0) 29, 0, 0)) (e_L 29 (0, ei_ald elay false 30, 0, 0)))) (e_T 33 (e_T 30 (e_L 30 (0, ei_push (0, 6000) 33, 0, 0)) (e_L 33 (0, ei_if2 0 43 36, 0, 0))) (e_T 36 (e_L 36 (0, ei_load 0 2 37, 0, 0)) (e_L 37 (2, e_nof, 422, 1))))) (e_T 46 (e_T 43 (e_T 40 (e_L 40 (0, ei_if1 0 46 43, 0, 0)) (e_L 43 (0, ei_push (0, (-3)) 45, 0, 0))) (e_T 45 (e_L 45 (1, e_nof, 1, 0)) (e_L 46 (0, ei_load 1 0 47, 0, 0)))) (e_T 50 (e_T 47 (e_L 47 (0, ei_push (0, 6000) 50, 0, 0)) (e_L 50 (0, ei_load 0 2 51, 0, 0))) (e_T 51 (e_L 51 (0, ei_getf eft elay 12 0 54, 0, 0)) (e_L 54 (0, ei_push (0, 0) 55, 0, 0)))))))
set_option maxRecDepth 20000 in
set_option maxHeartbeats 4000000 in
theorem te_426_0_ok : ∀ pc, e_EOq eft cls elay eI n_426 pc (te_426_0 pc) :=
  (e_Tok2
  (e_Tok2
  (e_Tok2
  (e_Tok2
  (e_Lok (ld_iload_n_1 (x_dk dn_426_0_0_ok 0 rfl)))
  (e_Tok2
  (e_Lok (e_st (I := eI) (er_i2l (x_dk dn_426_0_0_ok 1 rfl)) (nx_un (fun _ => rfl))))
  (e_Lok (ps_lconst_1 (x_dk dn_426_0_0_ok 2 rfl)))))
  (e_Tok2
  (e_Tok2
  (e_Lok (e_st (I := eI) (er_ldc2 (ix := 365) (z := 1000) (v := 1000) (x_dk dn_426_0_0_ok 3 rfl) (in_t11 (List.mem_of_getElem? (i := 115) rfl) rfl) (by decide)) (nx_push (Or.inl rfl))))
  (e_Lok (lk_12_301 ho_426 (x_dk dn_426_0_0_ok 4 rfl))))
  (e_Tok2
  (e_Lok (e_st (I := eI) (er_ifne (off := 5) (tg := 14) (x_dk dn_426_0_0_ok 5 rfl) (by decide)) nx_if1))
  (e_Lok (ps_iconst_m1 (x_dk dn_426_0_0_ok 6 rfl))))))
  (e_Tok2
  (e_Tok2
  (e_Lok (e_rt (I := eI) (k := 1) ⟨(x_dk dn_426_0_0_ok 7 rfl), rfl⟩))
  (e_Tok2
  (e_Lok (ld_aload_n_0 (x_dk dn_426_0_0_ok 8 rfl)))
  (e_Lok (lk_12_265g ho_426 (x_dk dn_426_0_0_ok 9 rfl)))))
  (e_Tok2
  (e_Tok2
  (e_Lok (e_st (I := eI) (er_ifne (off := 6) (tg := 24) (x_dk dn_426_0_0_ok 10 rfl) (by decide)) nx_if1))
  (e_Lok (ps_bipush_m2 (x_dk dn_426_0_0_ok 11 rfl))))
  (e_Tok2
  (e_Lok (e_rt (I := eI) (k := 1) ⟨(x_dk dn_426_0_0_ok 12 rfl), rfl⟩))
  (e_Lok (ld_aload_n_0 (x_dk dn_426_0_0_ok 13 rfl)))))))
  (e_Tok2
  (e_Tok2
  (e_Tok2
  (e_Lok (lk_12_8g ho_426 (x_dk dn_426_0_0_ok 14 rfl)))
  (e_Tok2
  (e_Lok (ps_iconst_0 (x_dk dn_426_0_0_ok 15 rfl)))
  (e_Lok (sm_iaload (x_dk dn_426_0_0_ok 16 rfl)))))
  (e_Tok2
  (e_Tok2
  (e_Lok (ps_sipush_6000 (x_dk dn_426_0_0_ok 17 rfl)))
  (e_Lok (e_st (I := eI) (er_icmpeq (off := 10) (tg := 43) (x_dk dn_426_0_0_ok 18 rfl) (by decide)) nx_if2)))
  (e_Tok2
  (e_Lok (ld_aload_n_0 (x_dk dn_426_0_0_ok 19 rfl)))
  (e_Lok (lk_12_863 ho_426 (x_dk dn_426_0_0_ok 20 rfl))))))
  (e_Tok2
  (e_Tok2
  (e_Tok2
  (e_Lok (e_st (I := eI) (er_ifeq (off := 6) (tg := 46) (x_dk dn_426_0_0_ok 21 rfl) (by decide)) nx_if1))
  (e_Lok (ps_bipush_m3 (x_dk dn_426_0_0_ok 22 rfl))))
  (e_Tok2
  (e_Lok (e_rt (I := eI) (k := 1) ⟨(x_dk dn_426_0_0_ok 23 rfl), rfl⟩))
  (e_Lok (ld_iload_n_1 (x_dk dn_426_0_0_ok 24 rfl)))))
  (e_Tok2
  (e_Tok2
  (e_Lok (ps_sipush_6000 (x_dk dn_426_0_1_ok 0 rfl)))
  (e_Lok (ld_aload_n_0 (x_dk dn_426_0_1_ok 1 rfl))))
  (e_Tok2
  (e_Lok (lk_12_8g ho_426 (x_dk dn_426_0_1_ok 2 rfl)))
  (e_Lok (ps_iconst_0 (x_dk dn_426_0_1_ok 3 rfl))))))))
def te_426_29 : Nat → eE := (e_T 76 (e_T 67 (e_T 57 (e_T 55 (e_L 55 (0, ei_ald elay false 56, 0, 0)) (e_T 56 (e_L 56 (0, ei_bin eF_sub 57, 0, 0)) (e_L 57 (0, ei_if2 3 64 60, 0, 0)))) (e_T 61 (e_T 60 (e_L 60 (0, ei_load 1 0 61, 0, 0)) (e_L 61 (0, ei_goto 74, 0, 0))) (e_T 64 (e_L 64 (0, ei_push (0, 6000) 67, 0, 0)) (e_L 67 (0, ei_load 0 2 68, 0, 0))))) (e_T 72 (e_T 68 (e_L 68 (0, ei_getf eft elay 12 0 71, 0, 0)) (e_T 71 (e_L 71 (0, ei_push (0, 0) 72, 0, 0)) (e_L 72 (0, ei_ald elay false 73, 0, 0)))) (e_T 74 (e_T 73 (e_L 73 (0, ei_bin eF_sub 74, 0, 0)) (e_L 74 (0, ei_stor 2 0 75, 0, 0))) (e_T 75 (e_L 75 (0, ei_push (0, 0) 76, 0, 0)) (e_L 76 (0, ei_stor 3 0 77, 0, 0)))))) (e_T 89 (e_T 79 (e_T 77 (e_L 77 (0, ei_load 3 0 78, 0, 0)) (e_T 78 (e_L 78 (0, ei_load 2 0 79, 0, 0)) (e_L 79 (0, ei_if2 3 92 82, 0, 0)))) (e_T 83 (e_T 82 (e_L 82 (0, ei_load 0 2 83, 0, 0)) (e_L 83 (2, e_nof, 408, 1))) (e_T 86 (e_L 86 (0, ei_inc 3 1 89, 0, 0)) (e_L 89 (0, ei_goto 77, 0, 0))))) (e_T 95 (e_T 93 (e_T 92 (e_L 92 (0, ei_load 0 2 93, 0, 0)) (e_L 93 (0, ei_push (0, 1) 94, 0, 0))) (e_T 94 (e_L 94 (0, ei_load 1 0 95, 0, 0)) (e_L 95 (0, ei_push (0, 0) 96, 0, 0)))) (e_T 97 (e_T 96 (e_L 96 (0, ei_push (0, 0) 97, 0, 0)) (e_L 97 (2, e_nof, 423, 5))) (e_T 100 (e_L 100 (0, ei_load 2 0 101, 0, 0)) (e_L 101 (1, e_nof, 1, 0)))))))
set_option maxRecDepth 20000 in
set_option maxHeartbeats 4000000 in
theorem te_426_29_ok : ∀ pc, e_EOq eft cls elay eI n_426 pc (te_426_29 pc) :=
  (e_Tok2
  (e_Tok2
  (e_Tok2
  (e_Tok2
  (e_Lok (sm_iaload (x_dk dn_426_0_1_ok 4 rfl)))
  (e_Tok2
  (e_Lok (sm_isub (x_dk dn_426_0_1_ok 5 rfl)))
  (e_Lok (e_st (I := eI) (er_icmpge (off := 7) (tg := 64) (x_dk dn_426_0_1_ok 6 rfl) (by decide)) nx_if2))))
  (e_Tok2
  (e_Tok2
  (e_Lok (ld_iload_n_1 (x_dk dn_426_0_1_ok 7 rfl)))
  (e_Lok (e_st (I := eI) (er_goto (off := 13) (tg := 74) (x_dk dn_426_0_1_ok 8 rfl) (by decide)) nx_goto)))
  (e_Tok2
  (e_Lok (ps_sipush_6000 (x_dk dn_426_0_1_ok 9 rfl)))
  (e_Lok (ld_aload_n_0 (x_dk dn_426_0_1_ok 10 rfl))))))
  (e_Tok2
  (e_Tok2
  (e_Lok (lk_12_8g ho_426 (x_dk dn_426_0_1_ok 11 rfl)))
  (e_Tok2
  (e_Lok (ps_iconst_0 (x_dk dn_426_0_1_ok 12 rfl)))
  (e_Lok (sm_iaload (x_dk dn_426_0_1_ok 13 rfl)))))
  (e_Tok2
  (e_Tok2
  (e_Lok (sm_isub (x_dk dn_426_0_1_ok 14 rfl)))
  (e_Lok (e_st (I := eI) (er_istore_n (i := 2) (x_dk dn_426_0_1_ok 15 rfl) (by decide +kernel)) nx_stor)))
  (e_Tok2
  (e_Lok (ps_iconst_0 (x_dk dn_426_0_1_ok 16 rfl)))
  (e_Lok (e_st (I := eI) (er_istore_n (i := 3) (x_dk dn_426_0_1_ok 17 rfl) (by decide +kernel)) nx_stor))))))
  (e_Tok2
  (e_Tok2
  (e_Tok2
  (e_Lok (ld_iload_n_3 (x_dk dn_426_0_1_ok 18 rfl)))
  (e_Tok2
  (e_Lok (ld_iload_n_2 (x_dk dn_426_0_1_ok 19 rfl)))
  (e_Lok (e_st (I := eI) (er_icmpge (off := 13) (tg := 92) (x_dk dn_426_0_1_ok 20 rfl) (by decide)) nx_if2))))
  (e_Tok2
  (e_Tok2
  (e_Lok (ld_aload_n_0 (x_dk dn_426_0_1_ok 21 rfl)))
  (e_Lok (lk_12_873 ho_426 (x_dk dn_426_0_1_ok 22 rfl))))
  (e_Tok2
  (e_Lok (e_st (I := eI) (er_iinc (i := 3) (n := 1) (x_dk dn_426_0_1_ok 23 rfl) (by decide +kernel) (by decide)) nx_inc))
  (e_Lok (e_st (I := eI) (er_goto (off := (-12)) (tg := 77) (x_dk dn_426_0_1_ok 24 rfl) (by decide)) nx_goto)))))
  (e_Tok2
  (e_Tok2
  (e_Tok2
  (e_Lok (ld_aload_n_0 (x_dk dn_426_0_2_ok 0 rfl)))
  (e_Lok (ps_iconst_1 (x_dk dn_426_0_2_ok 1 rfl))))
  (e_Tok2
  (e_Lok (ld_iload_n_1 (x_dk dn_426_0_2_ok 2 rfl)))
  (e_Lok (ps_iconst_0 (x_dk dn_426_0_2_ok 3 rfl)))))
  (e_Tok2
  (e_Tok2
  (e_Lok (ps_iconst_0 (x_dk dn_426_0_2_ok 4 rfl)))
  (e_Lok (lk_12_866 ho_426 (x_dk dn_426_0_2_ok 5 rfl))))
  (e_Tok2
  (e_Lok (ld_iload_n_2 (x_dk dn_426_0_2_ok 6 rfl)))
  (e_Lok (e_rt (I := eI) (k := 1) ⟨(x_dk dn_426_0_2_ok 7 rfl), rfl⟩)))))))
def te_426 : Nat → eE := (e_T 54 te_426_0 te_426_29)
theorem te_426_ok : ∀ pc, e_EOq eft cls elay eI n_426 pc (te_426 pc) := (e_Tok2 (te_426_0_ok) (te_426_29_ok))
theorem ho_427 : (xm_y n_427).cls = "RobotCellHouseModel" := rfl
def dn_427_0_0 : List (Nat × Instr × Nat) := [(0, .aload_n 0, 1), (1, .iload_n 1, 1), (2, .invokevirtual 876, 3), (5, .ifCond .ne 5, 3), (8, .iconst (-1), 1), (9, .ireturn, 1), (10, .aload_n 0, 1), (11, .getfield 265, 3), (14, .ifCond .ne 6, 3), (17, .bipush (-2), 2), (19, .ireturn, 1), (20, .aload_n 0, 1), (21, .invokevirtual 863, 3), (24, .ifCond .eq 6, 3), (27, .bipush (-3), 2), (29, .ireturn, 1), (30, .aload_n 0, 1), (31, .getfield 8, 3), (34, .sipush 160, 3), (37, .iload_n 1, 1), (38, .iadd, 1), (39, .iaload, 1), (40, .istore_n 3, 1), (41, .aload_n 0, 1), (42, .iload_n 1, 1)]
set_option maxRecDepth 20000 in
theorem dn_427_0_0_ok : dn_427_0_0.all (fun q => decide (decode (xm_b n_427) q.1 = .ok (q.2.1, q.2.2))) = true := xa_g_ok (by decide +kernel)
def dn_427_0_1 : List (Nat × Instr × Nat) := [(43, .iload_n 2, 1), (44, .invokevirtual 729, 3), (47, .aload_n 0, 1), (48, .iconst 2, 1), (49, .iload_n 1, 1), (50, .iload_n 2, 1), (51, .iconst 0, 1), (52, .invokevirtual 866, 3), (55, .iload_n 3, 1), (56, .ireturn, 1)]
set_option maxRecDepth 20000 in
theorem dn_427_0_1_ok : dn_427_0_1.all (fun q => decide (decode (xm_b n_427) q.1 = .ok (q.2.1, q.2.2))) = true := xa_g_ok (by decide +kernel)
def te_427_0 : Nat → eE := (e_T 30 (e_T 11 (e_T 5 (e_T 1 (e_T 0 (e_L 0 (0, ei_load 0 2 1, 0, 0)) (e_L 1 (0, ei_load 1 0 2, 0, 0))) (e_T 2 (e_L 2 (2, e_nof, 424, 2)) (e_L 5 (0, ei_if1 1 10 8, 0, 0)))) (e_T 9 (e_T 8 (e_L 8 (0, ei_push (0, (-1)) 9, 0, 0)) (e_L 9 (1, e_nof, 1, 0))) (e_T 10 (e_L 10 (0, ei_load 0 2 11, 0, 0)) (e_L 11 (0, ei_getf eft elay 12 3 14, 0, 0))))) (e_T 20 (e_T 17 (e_T 14 (e_L 14 (0, ei_if1 1 20 17, 0, 0)) (e_L 17 (0, ei_push (0, (-2)) 19, 0, 0))) (e_T 19 (e_L 19 (1, e_nof, 1, 0)) (e_L 20 (0, ei_load 0 2 21, 0, 0)))) (e_T 24 (e_T 21 (e_L 21 (2, e_nof, 422, 1)) (e_L 24 (0, ei_if1 0 30 27, 0, 0))) (e_T 27 (e_L 27 (0, ei_push (0, (-3)) 29, 0, 0)) (e_T 29 (e_L 29 (1, e_nof, 1, 0)) (e_L 30 (0, ei_load 0 2 31, 0, 0))))))) (e_T 43 (e_T 38 (e_T 34 (e_T 31 (e_L 31 (0, ei_getf eft elay 12 0 34, 0, 0)) (e_L 34 (0, ei_push (0, 160) 37, 0, 0))) (e_T 37 (e_L 37 (0, ei_load 1 0 38, 0, 0)) (e_L 38 (0, ei_bin eF_add 39, 0, 0)))) (e_T 40 (e_T 39 (e_L 39 (0, ei_ald elay false 40, 0, 0)) (e_L 40 (0, ei_stor 3 0 41, 0, 0))) (e_T 41 (e_L 41 (0, ei_load 0 2 42, 0, 0)) (e_T 42 (e_L 42 (0, ei_load 1 0 43, 0, 0)) (e_L 43 (0, ei_load 2 0 44, 0, 0)))))) (e_T 49 (e_T 47 (e_T 44 (e_L 44 (2, e_nof, 323, 3)) (e_L 47 (0, ei_load 0 2 48, 0, 0))) (e_T 48 (e_L 48 (0, ei_push (0, 2) 49, 0, 0)) (e_L 49 (0, ei_load 1 0 50, 0, 0)))) (e_T 51 (e_T 50 (e_L 50 (0, ei_load 2 0 51, 0, 0)) (e_L 51 (0, ei_push (0, 0) 52, 0, 0))) (e_T 52 (e_L 52 (2, e_nof, 423, 5)) (e_T 55 (e_L 55 (0, ei_load 3 0 56, 0, 0)) (e_L 56 (1, e_nof, 1, 0))))))))
set_option maxRecDepth 20000 in
set_option maxHeartbeats 4000000 in
theorem te_427_0_ok : ∀ pc, e_EOq eft cls elay eI n_427 pc (te_427_0 pc) :=
  (e_Tok2
  (e_Tok2
  (e_Tok2
  (e_Tok2
  (e_Tok2
  (e_Lok (ld_aload_n_0 (x_dk dn_427_0_0_ok 0 rfl)))
  (e_Lok (ld_iload_n_1 (x_dk dn_427_0_0_ok 1 rfl))))
  (e_Tok2
  (e_Lok (lk_12_876 ho_427 (x_dk dn_427_0_0_ok 2 rfl)))
  (e_Lok (e_st (I := eI) (er_ifne (off := 5) (tg := 10) (x_dk dn_427_0_0_ok 3 rfl) (by decide)) nx_if1))))
  (e_Tok2
  (e_Tok2
  (e_Lok (ps_iconst_m1 (x_dk dn_427_0_0_ok 4 rfl)))
  (e_Lok (e_rt (I := eI) (k := 1) ⟨(x_dk dn_427_0_0_ok 5 rfl), rfl⟩)))
  (e_Tok2
  (e_Lok (ld_aload_n_0 (x_dk dn_427_0_0_ok 6 rfl)))
  (e_Lok (lk_12_265g ho_427 (x_dk dn_427_0_0_ok 7 rfl))))))
  (e_Tok2
  (e_Tok2
  (e_Tok2
  (e_Lok (e_st (I := eI) (er_ifne (off := 6) (tg := 20) (x_dk dn_427_0_0_ok 8 rfl) (by decide)) nx_if1))
  (e_Lok (ps_bipush_m2 (x_dk dn_427_0_0_ok 9 rfl))))
  (e_Tok2
  (e_Lok (e_rt (I := eI) (k := 1) ⟨(x_dk dn_427_0_0_ok 10 rfl), rfl⟩))
  (e_Lok (ld_aload_n_0 (x_dk dn_427_0_0_ok 11 rfl)))))
  (e_Tok2
  (e_Tok2
  (e_Lok (lk_12_863 ho_427 (x_dk dn_427_0_0_ok 12 rfl)))
  (e_Lok (e_st (I := eI) (er_ifeq (off := 6) (tg := 30) (x_dk dn_427_0_0_ok 13 rfl) (by decide)) nx_if1)))
  (e_Tok2
  (e_Lok (ps_bipush_m3 (x_dk dn_427_0_0_ok 14 rfl)))
  (e_Tok2
  (e_Lok (e_rt (I := eI) (k := 1) ⟨(x_dk dn_427_0_0_ok 15 rfl), rfl⟩))
  (e_Lok (ld_aload_n_0 (x_dk dn_427_0_0_ok 16 rfl))))))))
  (e_Tok2
  (e_Tok2
  (e_Tok2
  (e_Tok2
  (e_Lok (lk_12_8g ho_427 (x_dk dn_427_0_0_ok 17 rfl)))
  (e_Lok (ps_sipush_160 (x_dk dn_427_0_0_ok 18 rfl))))
  (e_Tok2
  (e_Lok (ld_iload_n_1 (x_dk dn_427_0_0_ok 19 rfl)))
  (e_Lok (sm_iadd (x_dk dn_427_0_0_ok 20 rfl)))))
  (e_Tok2
  (e_Tok2
  (e_Lok (sm_iaload (x_dk dn_427_0_0_ok 21 rfl)))
  (e_Lok (e_st (I := eI) (er_istore_n (i := 3) (x_dk dn_427_0_0_ok 22 rfl) (by decide +kernel)) nx_stor)))
  (e_Tok2
  (e_Lok (ld_aload_n_0 (x_dk dn_427_0_0_ok 23 rfl)))
  (e_Tok2
  (e_Lok (ld_iload_n_1 (x_dk dn_427_0_0_ok 24 rfl)))
  (e_Lok (ld_iload_n_2 (x_dk dn_427_0_1_ok 0 rfl)))))))
  (e_Tok2
  (e_Tok2
  (e_Tok2
  (e_Lok (lk_12_729 ho_427 (x_dk dn_427_0_1_ok 1 rfl)))
  (e_Lok (ld_aload_n_0 (x_dk dn_427_0_1_ok 2 rfl))))
  (e_Tok2
  (e_Lok (ps_iconst_2 (x_dk dn_427_0_1_ok 3 rfl)))
  (e_Lok (ld_iload_n_1 (x_dk dn_427_0_1_ok 4 rfl)))))
  (e_Tok2
  (e_Tok2
  (e_Lok (ld_iload_n_2 (x_dk dn_427_0_1_ok 5 rfl)))
  (e_Lok (ps_iconst_0 (x_dk dn_427_0_1_ok 6 rfl))))
  (e_Tok2
  (e_Lok (lk_12_866 ho_427 (x_dk dn_427_0_1_ok 7 rfl)))
  (e_Tok2
  (e_Lok (ld_iload_n_3 (x_dk dn_427_0_1_ok 8 rfl)))
  (e_Lok (e_rt (I := eI) (k := 1) ⟨(x_dk dn_427_0_1_ok 9 rfl), rfl⟩))))))))
def te_427 : Nat → eE := te_427_0
theorem te_427_ok : ∀ pc, e_EOq eft cls elay eI n_427 pc (te_427 pc) := te_427_0_ok
end
