noncomputable section
theorem ho_404 : (xm_y n_404).cls = "RobotCellHouseModel" := rfl
def dn_404_0_0 : List (Nat × Instr × Nat) := [(0, .iconst 0, 1), (1, .istore_n 1, 1), (2, .iload_n 1, 1), (3, .aload_n 0, 1), (4, .getfield 269, 3), (7, .if_icmp .ge 60, 3), (10, .aload_n 0, 1), (11, .iload_n 1, 1), (12, .bipush 7, 2), (14, .iload_n 1, 1), (15, .imul, 1), (16, .iconst 0, 1), (17, .invokevirtual 454, 3), (20, .istore_n 2, 1), (21, .iload_n 1, 1), (22, .iconst 1, 1), (23, .iadd, 1), (24, .istore_n 3, 1), (25, .iload_n 3, 1), (26, .aload_n 0, 1), (27, .getfield 269, 3), (30, .if_icmp .ge 25, 3), (33, .iload_n 2, 1), (34, .ifCond .ne 21, 3), (37, .aload_n 0, 1)]
set_option maxRecDepth 20000 in
theorem dn_404_0_0_ok : dn_404_0_0.all (fun q => decide (decode (xm_b n_404) q.1 = .ok (q.2.1, q.2.2))) = true := xa_g_ok (by decide +kernel)
def dn_404_0_1 : List (Nat × Instr × Nat) := [(38, .iload_n 1, 1), (39, .bipush 7, 2), (41, .iload_n 1, 1), (42, .imul, 1), (43, .iload_n 3, 1), (44, .iconst 0, 1), (45, .invokevirtual 458, 3), (48, .istore_n 2, 1), (49, .iinc 3 1, 3), (52, .goto (-27), 3), (55, .iload_n 2, 1), (56, .ifCond .eq 5, 3), (59, .iload_n 1, 1), (60, .ireturn, 1), (61, .iinc 1 1, 3), (64, .goto (-62), 3), (67, .iconst (-1), 1), (68, .ireturn, 1)]
set_option maxRecDepth 20000 in
theorem dn_404_0_1_ok : dn_404_0_1.all (fun q => decide (decode (xm_b n_404) q.1 = .ok (q.2.1, q.2.2))) = true := xa_g_ok (by decide +kernel)
def te_404_0 : Nat → eE := (e_T 14 (e_T 4 (e_T 1 (e_T 0 (e_L 0 (0, ei_push (0, 0) 1, 0, 0)) (e_L 1 (0, ei_stor 1 0 2, 0, 0))) (e_T 2 (e_L 2 (0, ei_load 1 0 3, 0, 0)) (e_T 3 (e_L 3 (0, ei_load 0 2 4, 0, 0)) (e_L 4 (0, ei_getf eft elay 12 10 7, 0, 0))))) (e_T 10 (e_T 7 (e_L 7 (0, ei_if2 3 67 10, 0, 0)) (e_L 10 (0, ei_load 0 2 11, 0, 0))) (e_T 11 (e_L 11 (0, ei_load 1 0 12, 0, 0)) (e_T 12 (e_L 12 (0, ei_push (0, 7) 14, 0, 0)) (e_L 14 (0, ei_load 1 0 15, 0, 0)))))) (e_T 21 (e_T 16 (e_T 15 (e_L 15 (0, ei_bin eF_mul 16, 0, 0)) (e_L 16 (0, ei_push (0, 0) 17, 0, 0))) (e_T 17 (e_L 17 (2, e_nof, 315, 4)) (e_T 20 (e_L 20 (0, ei_stor 2 0 21, 0, 0)) (e_L 21 (0, ei_load 1 0 22, 0, 0))))) (e_T 24 (e_T 22 (e_L 22 (0, ei_push (0, 1) 23, 0, 0)) (e_T 23 (e_L 23 (0, ei_bin eF_add 24, 0, 0)) (e_L 24 (0, ei_stor 3 0 25, 0, 0)))) (e_T 25 (e_L 25 (0, ei_load 3 0 26, 0, 0)) (e_T 26 (e_L 26 (0, ei_load 0 2 27, 0, 0)) (e_L 27 (0, ei_getf eft elay 12 10 30, 0, 0)))))))
set_option maxRecDepth 20000 in
set_option maxHeartbeats 4000000 in
theorem te_404_0_ok : ∀ pc, e_EOq eft cls elay eI n_404 pc (te_404_0 pc) :=
  (e_Tok2
  (e_Tok2
  (e_Tok2
  (e_Tok2
  (e_Lok (ps_iconst_0 (x_dk dn_404_0_0_ok 0 rfl)))
  (e_Lok (e_st (I := eI) (er_istore_n (i := 1) (x_dk dn_404_0_0_ok 1 rfl) (by decide +kernel)) nx_stor)))
  (e_Tok2
  (e_Lok (ld_iload_n_1 (x_dk dn_404_0_0_ok 2 rfl)))
  (e_Tok2
  (e_Lok (ld_aload_n_0 (x_dk dn_404_0_0_ok 3 rfl)))
  (e_Lok (lk_12_269g ho_404 (x_dk dn_404_0_0_ok 4 rfl))))))
  (e_Tok2
  (e_Tok2
  (e_Lok (e_st (I := eI) (er_icmpge (off := 60) (tg := 67) (x_dk dn_404_0_0_ok 5 rfl) (by decide)) nx_if2))
  (e_Lok (ld_aload_n_0 (x_dk dn_404_0_0_ok 6 rfl))))
  (e_Tok2
  (e_Lok (ld_iload_n_1 (x_dk dn_404_0_0_ok 7 rfl)))
  (e_Tok2
  (e_Lok (ps_bipush_7 (x_dk dn_404_0_0_ok 8 rfl)))
  (e_Lok (ld_iload_n_1 (x_dk dn_404_0_0_ok 9 rfl)))))))
  (e_Tok2
  (e_Tok2
  (e_Tok2
  (e_Lok (sm_imul (x_dk dn_404_0_0_ok 10 rfl)))
  (e_Lok (ps_iconst_0 (x_dk dn_404_0_0_ok 11 rfl))))
  (e_Tok2
  (e_Lok (lk_12_454 ho_404 (x_dk dn_404_0_0_ok 12 rfl)))
  (e_Tok2
  (e_Lok (e_st (I := eI) (er_istore_n (i := 2) (x_dk dn_404_0_0_ok 13 rfl) (by decide +kernel)) nx_stor))
  (e_Lok (ld_iload_n_1 (x_dk dn_404_0_0_ok 14 rfl))))))
  (e_Tok2
  (e_Tok2
  (e_Lok (ps_iconst_1 (x_dk dn_404_0_0_ok 15 rfl)))
  (e_Tok2
  (e_Lok (sm_iadd (x_dk dn_404_0_0_ok 16 rfl)))
  (e_Lok (e_st (I := eI) (er_istore_n (i := 3) (x_dk dn_404_0_0_ok 17 rfl) (by decide +kernel)) nx_stor))))
  (e_Tok2
  (e_Lok (ld_iload_n_3 (x_dk dn_404_0_0_ok 18 rfl)))
  (e_Tok2
  (e_Lok (ld_aload_n_0 (x_dk dn_404_0_0_ok 19 rfl)))
  (e_Lok (lk_12_269g ho_404 (x_dk dn_404_0_0_ok 20 rfl))))))))
def te_404_21 : Nat → eE := (e_T 45 (e_T 38 (e_T 33 (e_T 30 (e_L 30 (0, ei_if2 3 55 33, 0, 0)) (e_L 33 (0, ei_load 2 0 34, 0, 0))) (e_T 34 (e_L 34 (0, ei_if1 1 55 37, 0, 0)) (e_T 37 (e_L 37 (0, ei_load 0 2 38, 0, 0)) (e_L 38 (0, ei_load 1 0 39, 0, 0))))) (e_T 42 (e_T 39 (e_L 39 (0, ei_push (0, 7) 41, 0, 0)) (e_T 41 (e_L 41 (0, ei_load 1 0 42, 0, 0)) (e_L 42 (0, ei_bin eF_mul 43, 0, 0)))) (e_T 43 (e_L 43 (0, ei_load 3 0 44, 0, 0)) (e_T 44 (e_L 44 (0, ei_push (0, 0) 45, 0, 0)) (e_L 45 (2, e_nof, 316, 5)))))) (e_T 56 (e_T 49 (e_T 48 (e_L 48 (0, ei_stor 2 0 49, 0, 0)) (e_L 49 (0, ei_inc 3 1 52, 0, 0))) (e_T 52 (e_L 52 (0, ei_goto 25, 0, 0)) (e_T 55 (e_L 55 (0, ei_load 2 0 56, 0, 0)) (e_L 56 (0, ei_if1 0 61 59, 0, 0))))) (e_T 61 (e_T 59 (e_L 59 (0, ei_load 1 0 60, 0, 0)) (e_T 60 (e_L 60 (1, e_nof, 1, 0)) (e_L 61 (0, ei_inc 1 1 64, 0, 0)))) (e_T 64 (e_L 64 (0, ei_goto 2, 0, 0)) (e_T 67 (e_L 67 (0, ei_push (0, (-1)) 68, 0, 0)) (e_L 68 (1, e_nof, 1, 0)))))))
set_option maxRecDepth 20000 in
set_option maxHeartbeats 4000000 in
theorem te_404_21_ok : ∀ pc, e_EOq eft cls elay eI n_404 pc (te_404_21 pc) :=
  (e_Tok2
  (e_Tok2
  (e_Tok2
  (e_Tok2
  (e_Lok (e_st (I := eI) (er_icmpge (off := 25) (tg := 55) (x_dk dn_404_0_0_ok 21 rfl) (by decide)) nx_if2))
  (e_Lok (ld_iload_n_2 (x_dk dn_404_0_0_ok 22 rfl))))
  (e_Tok2
  (e_Lok (e_st (I := eI) (er_ifne (off := 21) (tg := 55) (x_dk dn_404_0_0_ok 23 rfl) (by decide)) nx_if1))
  (e_Tok2
  (e_Lok (ld_aload_n_0 (x_dk dn_404_0_0_ok 24 rfl)))
  (e_Lok (ld_iload_n_1 (x_dk dn_404_0_1_ok 0 rfl))))))
  (e_Tok2
  (e_Tok2
  (e_Lok (ps_bipush_7 (x_dk dn_404_0_1_ok 1 rfl)))
  (e_Tok2
  (e_Lok (ld_iload_n_1 (x_dk dn_404_0_1_ok 2 rfl)))
  (e_Lok (sm_imul (x_dk dn_404_0_1_ok 3 rfl)))))
  (e_Tok2
  (e_Lok (ld_iload_n_3 (x_dk dn_404_0_1_ok 4 rfl)))
  (e_Tok2
  (e_Lok (ps_iconst_0 (x_dk dn_404_0_1_ok 5 rfl)))
  (e_Lok (lk_12_458 ho_404 (x_dk dn_404_0_1_ok 6 rfl)))))))
  (e_Tok2
  (e_Tok2
  (e_Tok2
  (e_Lok (e_st (I := eI) (er_istore_n (i := 2) (x_dk dn_404_0_1_ok 7 rfl) (by decide +kernel)) nx_stor))
  (e_Lok (e_st (I := eI) (er_iinc (i := 3) (n := 1) (x_dk dn_404_0_1_ok 8 rfl) (by decide +kernel) (by decide)) nx_inc)))
  (e_Tok2
  (e_Lok (e_st (I := eI) (er_goto (off := (-27)) (tg := 25) (x_dk dn_404_0_1_ok 9 rfl) (by decide)) nx_goto))
  (e_Tok2
  (e_Lok (ld_iload_n_2 (x_dk dn_404_0_1_ok 10 rfl)))
  (e_Lok (e_st (I := eI) (er_ifeq (off := 5) (tg := 61) (x_dk dn_404_0_1_ok 11 rfl) (by decide)) nx_if1)))))
  (e_Tok2
  (e_Tok2
  (e_Lok (ld_iload_n_1 (x_dk dn_404_0_1_ok 12 rfl)))
  (e_Tok2
  (e_Lok (e_rt (I := eI) (k := 1) ⟨(x_dk dn_404_0_1_ok 13 rfl), rfl⟩))
  (e_Lok (e_st (I := eI) (er_iinc (i := 1) (n := 1) (x_dk dn_404_0_1_ok 14 rfl) (by decide +kernel) (by decide)) nx_inc))))
  (e_Tok2
  (e_Lok (e_st (I := eI) (er_goto (off := (-62)) (tg := 2) (x_dk dn_404_0_1_ok 15 rfl) (by decide)) nx_goto))
  (e_Tok2
  (e_Lok (ps_iconst_m1 (x_dk dn_404_0_1_ok 16 rfl)))
  (e_Lok (e_rt (I := eI) (k := 1) ⟨(x_dk dn_404_0_1_ok 17 rfl), rfl⟩)))))))
def te_404 : Nat → eE := (e_T 27 te_404_0 te_404_21)
theorem te_404_ok : ∀ pc, e_EOq eft cls elay eI n_404 pc (te_404 pc) := (e_Tok2 (te_404_0_ok) (te_404_21_ok))
theorem ho_405 : (xm_y n_405).cls = "RobotCellHouseModel" := rfl
def dn_405_0_0 : List (Nat × Instr × Nat) := [(0, .iconst 0, 1), (1, .istore_n 1, 1), (2, .iload_n 1, 1), (3, .aload_n 0, 1), (4, .getfield 282, 3), (7, .if_icmp .ge 218, 3), (10, .aload_n 0, 1), (11, .getfield 116, 3), (14, .iload_n 1, 1), (15, .iaload, 1), (16, .istore_n 2, 1), (17, .iconst 1, 1), (18, .istore_n 3, 1), (19, .iload_n 3, 1), (20, .aload_n 0, 1), (21, .getfield 43, 3), (24, .iload_n 2, 1), (25, .iaload, 1), (26, .if_icmp .gt 193, 3), (29, .aload_n 0, 1), (30, .getfield 149, 3), (33, .bipush 7, 2), (35, .iload_n 2, 1), (36, .imul, 1), (37, .iload_n 3, 1)]
set_option maxRecDepth 20000 in
theorem dn_405_0_0_ok : dn_405_0_0.all (fun q => decide (decode (xm_b n_405) q.1 = .ok (q.2.1, q.2.2))) = true := xa_g_ok (by decide +kernel)
def dn_405_0_1 : List (Nat × Instr × Nat) := [(38, .iadd, 1), (39, .iaload, 1), (40, .i2l, 1), (41, .lstore 4, 2), (43, .aload_n 0, 1), (44, .getfield 152, 3), (47, .bipush 7, 2), (49, .iload_n 2, 1), (50, .imul, 1), (51, .iload_n 3, 1), (52, .iadd, 1), (53, .iaload, 1), (54, .i2l, 1), (55, .lstore 6, 2), (57, .lload 4, 2), (59, .aload_n 0, 1), (60, .getfield 8, 3), (63, .sipush 20876, 3), (66, .bipush 14, 2), (68, .iload_n 2, 1), (69, .imul, 1), (70, .iadd, 1), (71, .iconst 2, 1), (72, .iload_n 3, 1), (73, .imul, 1)]
set_option maxRecDepth 20000 in
theorem dn_405_0_1_ok : dn_405_0_1.all (fun q => decide (decode (xm_b n_405) q.1 = .ok (q.2.1, q.2.2))) = true := xa_g_ok (by decide +kernel)
def dn_405_0_2 : List (Nat × Instr × Nat) := [(74, .iadd, 1), (75, .iaload, 1), (76, .i2l, 1), (77, .lsub, 1), (78, .lstore 8, 2), (80, .lload 6, 2), (82, .aload_n 0, 1), (83, .getfield 8, 3), (86, .sipush 20876, 3), (89, .bipush 14, 2), (91, .iload_n 2, 1), (92, .imul, 1), (93, .iadd, 1), (94, .iconst 2, 1), (95, .iload_n 3, 1), (96, .imul, 1), (97, .iadd, 1), (98, .iconst 1, 1), (99, .iadd, 1), (100, .iaload, 1), (101, .i2l, 1), (102, .lsub, 1), (103, .lstore 10, 2), (105, .aload_n 0, 1), (106, .getfield 131, 3)]
set_option maxRecDepth 20000 in
theorem dn_405_0_2_ok : dn_405_0_2.all (fun q => decide (decode (xm_b n_405) q.1 = .ok (q.2.1, q.2.2))) = true := xa_g_ok (by decide +kernel)
def dn_405_0_3 : List (Nat × Instr × Nat) := [(109, .iload_n 1, 1), (110, .iaload, 1), (111, .i2l, 1), (112, .lstore 12, 2), (114, .lload 4, 2), (116, .aload_n 0, 1), (117, .getfield 119, 3), (120, .iload_n 1, 1), (121, .iaload, 1), (122, .i2l, 1), (123, .aload_n 0, 1), (124, .getfield 119, 3), (127, .iload_n 1, 1), (128, .iaload, 1), (129, .aload_n 0, 1), (130, .getfield 125, 3), (133, .iload_n 1, 1), (134, .iaload, 1), (135, .iadd, 1), (136, .i2l, 1), (137, .invokestatic 301, 3), (140, .ifCond .eq 36, 3), (143, .lload 6, 2), (145, .aload_n 0, 1), (146, .getfield 122, 3)]
set_option maxRecDepth 20000 in
theorem dn_405_0_3_ok : dn_405_0_3.all (fun q => decide (decode (xm_b n_405) q.1 = .ok (q.2.1, q.2.2))) = true := xa_g_ok (by decide +kernel)
def dn_405_1_0 : List (Nat × Instr × Nat) := [(149, .iload_n 1, 1), (150, .iaload, 1), (151, .i2l, 1), (152, .aload_n 0, 1), (153, .getfield 122, 3), (156, .iload_n 1, 1), (157, .iaload, 1), (158, .aload_n 0, 1), (159, .getfield 128, 3), (162, .iload_n 1, 1), (163, .iaload, 1), (164, .iadd, 1), (165, .i2l, 1), (166, .invokestatic 301, 3), (169, .ifCond .eq 7, 3), (172, .iconst 1, 1), (173, .goto 4, 3), (176, .iconst 0, 1), (177, .istore 14, 2), (179, .iload 14, 2), (181, .ifCond .eq 32, 3), (184, .lload 12, 2), (186, .lconst 0, 1), (187, .lcmp, 1), (188, .ifCond .lt 23, 3)]
set_option maxRecDepth 20000 in
theorem dn_405_1_0_ok : dn_405_1_0.all (fun q => decide (decode (xm_b n_405) q.1 = .ok (q.2.1, q.2.2))) = true := xa_g_ok (by decide +kernel)
def dn_405_1_1 : List (Nat × Instr × Nat) := [(191, .lload 8, 2), (193, .lload 8, 2), (195, .lmul, 1), (196, .lload 10, 2), (198, .lload 10, 2), (200, .lmul, 1), (201, .ladd, 1), (202, .lload 12, 2), (204, .lload 12, 2), (206, .lmul, 1), (207, .lcmp, 1), (208, .ifCond .le 5, 3), (211, .iload_n 1, 1), (212, .ireturn, 1), (213, .iinc 3 1, 3), (216, .goto (-197), 3), (219, .iinc 1 1, 3), (222, .goto (-220), 3), (225, .iconst (-1), 1), (226, .ireturn, 1)]
set_option maxRecDepth 20000 in
theorem dn_405_1_1_ok : dn_405_1_1.all (fun q => decide (decode (xm_b n_405) q.1 = .ok (q.2.1, q.2.2))) = true := xa_g_ok (by decide +kernel)
def te_405_0 : Nat → eE := (e_T 25 (e_T 14 (e_T 3 (e_T 1 (e_T 0 (e_L 0 (0, ei_push (0, 0) 1, 0, 0)) (e_L 1 (0, ei_stor 1 0 2, 0, 0))) (e_T 2 (e_L 2 (0, ei_load 1 0 3, 0, 0)) (e_L 3 (0, ei_load 0 2 4, 0, 0)))) (e_T 7 (e_T 4 (e_L 4 (0, ei_getf eft elay 12 42 7, 0, 0)) (e_L 7 (0, ei_if2 3 225 10, 0, 0))) (e_T 10 (e_L 10 (0, ei_load 0 2 11, 0, 0)) (e_T 11 (e_L 11 (0, ei_getf eft elay 12 43 14, 0, 0)) (e_L 14 (0, ei_load 1 0 15, 0, 0)))))) (e_T 18 (e_T 16 (e_T 15 (e_L 15 (0, ei_ald elay false 16, 0, 0)) (e_L 16 (0, ei_stor 2 0 17, 0, 0))) (e_T 17 (e_L 17 (0, ei_push (0, 1) 18, 0, 0)) (e_L 18 (0, ei_stor 3 0 19, 0, 0)))) (e_T 20 (e_T 19 (e_L 19 (0, ei_load 3 0 20, 0, 0)) (e_L 20 (0, ei_load 0 2 21, 0, 0))) (e_T 21 (e_L 21 (0, ei_getf eft elay 12 15 24, 0, 0)) (e_T 24 (e_L 24 (0, ei_load 2 0 25, 0, 0)) (e_L 25 (0, ei_ald elay false 26, 0, 0))))))) (e_T 39 (e_T 33 (e_T 29 (e_T 26 (e_L 26 (0, ei_if2 4 219 29, 0, 0)) (e_L 29 (0, ei_load 0 2 30, 0, 0))) (e_T 30 (e_L 30 (0, ei_getf eft elay 12 55 33, 0, 0)) (e_L 33 (0, ei_push (0, 7) 35, 0, 0)))) (e_T 36 (e_T 35 (e_L 35 (0, ei_load 2 0 36, 0, 0)) (e_L 36 (0, ei_bin eF_mul 37, 0, 0))) (e_T 37 (e_L 37 (0, ei_load 3 0 38, 0, 0)) (e_T 38 (e_L 38 (0, ei_bin eF_add 39, 0, 0)) (e_L 39 (0, ei_ald elay false 40, 0, 0)))))) (e_T 44 (e_T 41 (e_T 40 (e_L 40 (0, ei_un (fun x => (4, x)) 41, 0, 0)) (e_L 41 (0, ei_stor 4 1 43, 0, 0))) (e_T 43 (e_L 43 (0, ei_load 0 2 44, 0, 0)) (e_L 44 (0, ei_getf eft elay 12 56 47, 0, 0)))) (e_T 49 (e_T 47 (e_L 47 (0, ei_push (0, 7) 49, 0, 0)) (e_L 49 (0, ei_load 2 0 50, 0, 0))) (e_T 50 (e_L 50 (0, ei_bin eF_mul 51, 0, 0)) (e_T 51 (e_L 51 (0, ei_load 3 0 52, 0, 0)) (e_L 52 (0, ei_bin eF_add 53, 0, 0))))))))
set_option maxRecDepth 20000 in
set_option maxHeartbeats 4000000 in
theorem te_405_0_ok : ∀ pc, e_EOq eft cls elay eI n_405 pc (te_405_0 pc) :=
  (e_Tok2
  (e_Tok2
  (e_Tok2
  (e_Tok2
  (e_Tok2
  (e_Lok (ps_iconst_0 (x_dk dn_405_0_0_ok 0 rfl)))
  (e_Lok (e_st (I := eI) (er_istore_n (i := 1) (x_dk dn_405_0_0_ok 1 rfl) (by decide +kernel)) nx_stor)))
  (e_Tok2
  (e_Lok (ld_iload_n_1 (x_dk dn_405_0_0_ok 2 rfl)))
  (e_Lok (ld_aload_n_0 (x_dk dn_405_0_0_ok 3 rfl)))))
  (e_Tok2
  (e_Tok2
  (e_Lok (lk_12_282g ho_405 (x_dk dn_405_0_0_ok 4 rfl)))
  (e_Lok (e_st (I := eI) (er_icmpge (off := 218) (tg := 225) (x_dk dn_405_0_0_ok 5 rfl) (by decide)) nx_if2)))
  (e_Tok2
  (e_Lok (ld_aload_n_0 (x_dk dn_405_0_0_ok 6 rfl)))
  (e_Tok2
  (e_Lok (lk_12_116g ho_405 (x_dk dn_405_0_0_ok 7 rfl)))
  (e_Lok (ld_iload_n_1 (x_dk dn_405_0_0_ok 8 rfl)))))))
  (e_Tok2
  (e_Tok2
  (e_Tok2
  (e_Lok (sm_iaload (x_dk dn_405_0_0_ok 9 rfl)))
  (e_Lok (e_st (I := eI) (er_istore_n (i := 2) (x_dk dn_405_0_0_ok 10 rfl) (by decide +kernel)) nx_stor)))
  (e_Tok2
  (e_Lok (ps_iconst_1 (x_dk dn_405_0_0_ok 11 rfl)))
  (e_Lok (e_st (I := eI) (er_istore_n (i := 3) (x_dk dn_405_0_0_ok 12 rfl) (by decide +kernel)) nx_stor))))
  (e_Tok2
  (e_Tok2
  (e_Lok (ld_iload_n_3 (x_dk dn_405_0_0_ok 13 rfl)))
  (e_Lok (ld_aload_n_0 (x_dk dn_405_0_0_ok 14 rfl))))
  (e_Tok2
  (e_Lok (lk_12_43g ho_405 (x_dk dn_405_0_0_ok 15 rfl)))
  (e_Tok2
  (e_Lok (ld_iload_n_2 (x_dk dn_405_0_0_ok 16 rfl)))
  (e_Lok (sm_iaload (x_dk dn_405_0_0_ok 17 rfl))))))))
  (e_Tok2
  (e_Tok2
  (e_Tok2
  (e_Tok2
  (e_Lok (e_st (I := eI) (er_icmpgt (off := 193) (tg := 219) (x_dk dn_405_0_0_ok 18 rfl) (by decide)) nx_if2))
  (e_Lok (ld_aload_n_0 (x_dk dn_405_0_0_ok 19 rfl))))
  (e_Tok2
  (e_Lok (lk_12_149g ho_405 (x_dk dn_405_0_0_ok 20 rfl)))
  (e_Lok (ps_bipush_7 (x_dk dn_405_0_0_ok 21 rfl)))))
  (e_Tok2
  (e_Tok2
  (e_Lok (ld_iload_n_2 (x_dk dn_405_0_0_ok 22 rfl)))
  (e_Lok (sm_imul (x_dk dn_405_0_0_ok 23 rfl))))
  (e_Tok2
  (e_Lok (ld_iload_n_3 (x_dk dn_405_0_0_ok 24 rfl)))
  (e_Tok2
  (e_Lok (sm_iadd (x_dk dn_405_0_1_ok 0 rfl)))
  (e_Lok (sm_iaload (x_dk dn_405_0_1_ok 1 rfl)))))))
  (e_Tok2
  (e_Tok2
  (e_Tok2
  (e_Lok (e_st (I := eI) (er_i2l (x_dk dn_405_0_1_ok 2 rfl)) (nx_un (fun _ => rfl))))
  (e_Lok (e_st (I := eI) (er_lstore (i := 4) (x_dk dn_405_0_1_ok 3 rfl) (by decide +kernel)) nx_stor)))
  (e_Tok2
  (e_Lok (ld_aload_n_0 (x_dk dn_405_0_1_ok 4 rfl)))
  (e_Lok (lk_12_152g ho_405 (x_dk dn_405_0_1_ok 5 rfl)))))
  (e_Tok2
  (e_Tok2
  (e_Lok (ps_bipush_7 (x_dk dn_405_0_1_ok 6 rfl)))
  (e_Lok (ld_iload_n_2 (x_dk dn_405_0_1_ok 7 rfl))))
  (e_Tok2
  (e_Lok (sm_imul (x_dk dn_405_0_1_ok 8 rfl)))
  (e_Tok2
  (e_Lok (ld_iload_n_3 (x_dk dn_405_0_1_ok 9 rfl)))
  (e_Lok (sm_iadd (x_dk dn_405_0_1_ok 10 rfl)))))))))
def te_405_36 : Nat → eE := (e_T 77 (e_T 68 (e_T 57 (e_T 54 (e_T 53 (e_L 53 (0, ei_ald elay false 54, 0, 0)) (e_L 54 (0, ei_un (fun x => (4, x)) 55, 0, 0))) (e_T 55 (e_L 55 (0, ei_stor 6 1 57, 0, 0)) (e_L 57 (0, ei_load 4 1 59, 0, 0)))) (e_T 60 (e_T 59 (e_L 59 (0, ei_load 0 2 60, 0, 0)) (e_L 60 (0, ei_getf eft elay 12 0 63, 0, 0))) (e_T 63 (e_L 63 (0, ei_push (0, 20876) 66, 0, 0)) (e_T 66 (e_L 66 (0, ei_push (0, 14) 68, 0, 0)) (e_L 68 (0, ei_load 2 0 69, 0, 0)))))) (e_T 72 (e_T 70 (e_T 69 (e_L 69 (0, ei_bin eF_mul 70, 0, 0)) (e_L 70 (0, ei_bin eF_add 71, 0, 0))) (e_T 71 (e_L 71 (0, ei_push (0, 2) 72, 0, 0)) (e_L 72 (0, ei_load 3 0 73, 0, 0)))) (e_T 74 (e_T 73 (e_L 73 (0, ei_bin eF_mul 74, 0, 0)) (e_L 74 (0, ei_bin eF_add 75, 0, 0))) (e_T 75 (e_L 75 (0, ei_ald elay false 76, 0, 0)) (e_T 76 (e_L 76 (0, ei_un (fun x => (4, x)) 77, 0, 0)) (e_L 77 (0, ei_binL eG_sub 78, 0, 0))))))) (e_T 93 (e_T 83 (e_T 80 (e_T 78 (e_L 78 (0, ei_stor 8 1 80, 0, 0)) (e_L 80 (0, ei_load 6 1 82, 0, 0))) (e_T 82 (e_L 82 (0, ei_load 0 2 83, 0, 0)) (e_L 83 (0, ei_getf eft elay 12 0 86, 0, 0)))) (e_T 89 (e_T 86 (e_L 86 (0, ei_push (0, 20876) 89, 0, 0)) (e_L 89 (0, ei_push (0, 14) 91, 0, 0))) (e_T 91 (e_L 91 (0, ei_load 2 0 92, 0, 0)) (e_T 92 (e_L 92 (0, ei_bin eF_mul 93, 0, 0)) (e_L 93 (0, ei_bin eF_add 94, 0, 0)))))) (e_T 97 (e_T 95 (e_T 94 (e_L 94 (0, ei_push (0, 2) 95, 0, 0)) (e_L 95 (0, ei_load 3 0 96, 0, 0))) (e_T 96 (e_L 96 (0, ei_bin eF_mul 97, 0, 0)) (e_L 97 (0, ei_bin eF_add 98, 0, 0)))) (e_T 99 (e_T 98 (e_L 98 (0, ei_push (0, 1) 99, 0, 0)) (e_L 99 (0, ei_bin eF_add 100, 0, 0))) (e_T 100 (e_L 100 (0, ei_ald elay false 101, 0, 0)) (e_T 101 (e_L 101 (0, ei_un (fun x => (4, x)) 102, 0, 0)) (e_L 102 (0, ei_binL eG_sub 103, 0, 0))))))))
set_option maxRecDepth 20000 in
set_option maxHeartbeats 4000000 in
theorem te_405_36_ok : ∀ pc, e_EOq eft cls elay eI n_405 pc (te_405_36 pc) :=
  (e_Tok2
  (e_Tok2
  (e_Tok2
  (e_Tok2
  (e_Tok2
  (e_Lok (sm_iaload (x_dk dn_405_0_1_ok 11 rfl)))
  (e_Lok (e_st (I := eI) (er_i2l (x_dk dn_405_0_1_ok 12 rfl)) (nx_un (fun _ => rfl)))))
  (e_Tok2
  (e_Lok (e_st (I := eI) (er_lstore (i := 6) (x_dk dn_405_0_1_ok 13 rfl) (by decide +kernel)) nx_stor))
  (e_Lok (ld_lload_4 (x_dk dn_405_0_1_ok 14 rfl)))))
  (e_Tok2
  (e_Tok2
  (e_Lok (ld_aload_n_0 (x_dk dn_405_0_1_ok 15 rfl)))
  (e_Lok (lk_12_8g ho_405 (x_dk dn_405_0_1_ok 16 rfl))))
  (e_Tok2
  (e_Lok (ps_sipush_20876 (x_dk dn_405_0_1_ok 17 rfl)))
  (e_Tok2
  (e_Lok (ps_bipush_14 (x_dk dn_405_0_1_ok 18 rfl)))
  (e_Lok (ld_iload_n_2 (x_dk dn_405_0_1_ok 19 rfl)))))))
  (e_Tok2
  (e_Tok2
  (e_Tok2
  (e_Lok (sm_imul (x_dk dn_405_0_1_ok 20 rfl)))
  (e_Lok (sm_iadd (x_dk dn_405_0_1_ok 21 rfl))))
  (e_Tok2
  (e_Lok (ps_iconst_2 (x_dk dn_405_0_1_ok 22 rfl)))
  (e_Lok (ld_iload_n_3 (x_dk dn_405_0_1_ok 23 rfl)))))
  (e_Tok2
  (e_Tok2
  (e_Lok (sm_imul (x_dk dn_405_0_1_ok 24 rfl)))
  (e_Lok (sm_iadd (x_dk dn_405_0_2_ok 0 rfl))))
  (e_Tok2
  (e_Lok (sm_iaload (x_dk dn_405_0_2_ok 1 rfl)))
  (e_Tok2
  (e_Lok (e_st (I := eI) (er_i2l (x_dk dn_405_0_2_ok 2 rfl)) (nx_un (fun _ => rfl))))
  (e_Lok (e_st (I := eI) (er_lsub (x_dk dn_405_0_2_ok 3 rfl)) (nx_binL bG_lsub))))))))
  (e_Tok2
  (e_Tok2
  (e_Tok2
  (e_Tok2
  (e_Lok (e_st (I := eI) (er_lstore (i := 8) (x_dk dn_405_0_2_ok 4 rfl) (by decide +kernel)) nx_stor))
  (e_Lok (ld_lload_6 (x_dk dn_405_0_2_ok 5 rfl))))
  (e_Tok2
  (e_Lok (ld_aload_n_0 (x_dk dn_405_0_2_ok 6 rfl)))
  (e_Lok (lk_12_8g ho_405 (x_dk dn_405_0_2_ok 7 rfl)))))
  (e_Tok2
  (e_Tok2
  (e_Lok (ps_sipush_20876 (x_dk dn_405_0_2_ok 8 rfl)))
  (e_Lok (ps_bipush_14 (x_dk dn_405_0_2_ok 9 rfl))))
  (e_Tok2
  (e_Lok (ld_iload_n_2 (x_dk dn_405_0_2_ok 10 rfl)))
  (e_Tok2
  (e_Lok (sm_imul (x_dk dn_405_0_2_ok 11 rfl)))
  (e_Lok (sm_iadd (x_dk dn_405_0_2_ok 12 rfl)))))))
  (e_Tok2
  (e_Tok2
  (e_Tok2
  (e_Lok (ps_iconst_2 (x_dk dn_405_0_2_ok 13 rfl)))
  (e_Lok (ld_iload_n_3 (x_dk dn_405_0_2_ok 14 rfl))))
  (e_Tok2
  (e_Lok (sm_imul (x_dk dn_405_0_2_ok 15 rfl)))
  (e_Lok (sm_iadd (x_dk dn_405_0_2_ok 16 rfl)))))
  (e_Tok2
  (e_Tok2
  (e_Lok (ps_iconst_1 (x_dk dn_405_0_2_ok 17 rfl)))
  (e_Lok (sm_iadd (x_dk dn_405_0_2_ok 18 rfl))))
  (e_Tok2
  (e_Lok (sm_iaload (x_dk dn_405_0_2_ok 19 rfl)))
  (e_Tok2
  (e_Lok (e_st (I := eI) (er_i2l (x_dk dn_405_0_2_ok 20 rfl)) (nx_un (fun _ => rfl))))
  (e_Lok (e_st (I := eI) (er_lsub (x_dk dn_405_0_2_ok 21 rfl)) (nx_binL bG_lsub)))))))))
def te_405_72 : Nat → eE := (e_T 129 (e_T 116 (e_T 109 (e_T 105 (e_T 103 (e_L 103 (0, ei_stor 10 1 105, 0, 0)) (e_L 105 (0, ei_load 0 2 106, 0, 0))) (e_T 106 (e_L 106 (0, ei_getf eft elay 12 48 109, 0, 0)) (e_L 109 (0, ei_load 1 0 110, 0, 0)))) (e_T 111 (e_T 110 (e_L 110 (0, ei_ald elay false 111, 0, 0)) (e_L 111 (0, ei_un (fun x => (4, x)) 112, 0, 0))) (e_T 112 (e_L 112 (0, ei_stor 12 1 114, 0, 0)) (e_T 114 (e_L 114 (0, ei_load 4 1 116, 0, 0)) (e_L 116 (0, ei_load 0 2 117, 0, 0)))))) (e_T 122 (e_T 120 (e_T 117 (e_L 117 (0, ei_getf eft elay 12 44 120, 0, 0)) (e_L 120 (0, ei_load 1 0 121, 0, 0))) (e_T 121 (e_L 121 (0, ei_ald elay false 122, 0, 0)) (e_L 122 (0, ei_un (fun x => (4, x)) 123, 0, 0)))) (e_T 124 (e_T 123 (e_L 123 (0, ei_load 0 2 124, 0, 0)) (e_L 124 (0, ei_getf eft elay 12 44 127, 0, 0))) (e_T 127 (e_L 127 (0, ei_load 1 0 128, 0, 0)) (e_T 128 (e_L 128 (0, ei_ald elay false 129, 0, 0)) (e_L 129 (0, ei_load 0 2 130, 0, 0))))))) (e_T 145 (e_T 135 (e_T 133 (e_T 130 (e_L 130 (0, ei_getf eft elay 12 46 133, 0, 0)) (e_L 133 (0, ei_load 1 0 134, 0, 0))) (e_T 134 (e_L 134 (0, ei_ald elay false 135, 0, 0)) (e_L 135 (0, ei_bin eF_add 136, 0, 0)))) (e_T 137 (e_T 136 (e_L 136 (0, ei_un (fun x => (4, x)) 137, 0, 0)) (e_L 137 (2, e_nof, 266, 3))) (e_T 140 (e_L 140 (0, ei_if1 0 176 143, 0, 0)) (e_T 143 (e_L 143 (0, ei_load 6 1 145, 0, 0)) (e_L 145 (0, ei_load 0 2 146, 0, 0)))))) (e_T 151 (e_T 149 (e_T 146 (e_L 146 (0, ei_getf eft elay 12 45 149, 0, 0)) (e_L 149 (0, ei_load 1 0 150, 0, 0))) (e_T 150 (e_L 150 (0, ei_ald elay false 151, 0, 0)) (e_L 151 (0, ei_un (fun x => (4, x)) 152, 0, 0)))) (e_T 153 (e_T 152 (e_L 152 (0, ei_load 0 2 153, 0, 0)) (e_L 153 (0, ei_getf eft elay 12 45 156, 0, 0))) (e_T 156 (e_L 156 (0, ei_load 1 0 157, 0, 0)) (e_T 157 (e_L 157 (0, ei_ald elay false 158, 0, 0)) (e_L 158 (0, ei_load 0 2 159, 0, 0))))))))
set_option maxRecDepth 20000 in
set_option maxHeartbeats 4000000 in
theorem te_405_72_ok : ∀ pc, e_EOq eft cls elay eI n_405 pc (te_405_72 pc) :=
  (e_Tok2
  (e_Tok2
  (e_Tok2
  (e_Tok2
  (e_Tok2
  (e_Lok (e_st (I := eI) (er_lstore (i := 10) (x_dk dn_405_0_2_ok 22 rfl) (by decide +kernel)) nx_stor))
  (e_Lok (ld_aload_n_0 (x_dk dn_405_0_2_ok 23 rfl))))
  (e_Tok2
  (e_Lok (lk_12_131g ho_405 (x_dk dn_405_0_2_ok 24 rfl)))
  (e_Lok (ld_iload_n_1 (x_dk dn_405_0_3_ok 0 rfl)))))
  (e_Tok2
  (e_Tok2
  (e_Lok (sm_iaload (x_dk dn_405_0_3_ok 1 rfl)))
  (e_Lok (e_st (I := eI) (er_i2l (x_dk dn_405_0_3_ok 2 rfl)) (nx_un (fun _ => rfl)))))
  (e_Tok2
  (e_Lok (e_st (I := eI) (er_lstore (i := 12) (x_dk dn_405_0_3_ok 3 rfl) (by decide +kernel)) nx_stor))
  (e_Tok2
  (e_Lok (ld_lload_4 (x_dk dn_405_0_3_ok 4 rfl)))
  (e_Lok (ld_aload_n_0 (x_dk dn_405_0_3_ok 5 rfl)))))))
  (e_Tok2
  (e_Tok2
  (e_Tok2
  (e_Lok (lk_12_119g ho_405 (x_dk dn_405_0_3_ok 6 rfl)))
  (e_Lok (ld_iload_n_1 (x_dk dn_405_0_3_ok 7 rfl))))
  (e_Tok2
  (e_Lok (sm_iaload (x_dk dn_405_0_3_ok 8 rfl)))
  (e_Lok (e_st (I := eI) (er_i2l (x_dk dn_405_0_3_ok 9 rfl)) (nx_un (fun _ => rfl))))))
  (e_Tok2
  (e_Tok2
  (e_Lok (ld_aload_n_0 (x_dk dn_405_0_3_ok 10 rfl)))
  (e_Lok (lk_12_119g ho_405 (x_dk dn_405_0_3_ok 11 rfl))))
  (e_Tok2
  (e_Lok (ld_iload_n_1 (x_dk dn_405_0_3_ok 12 rfl)))
  (e_Tok2
  (e_Lok (sm_iaload (x_dk dn_405_0_3_ok 13 rfl)))
  (e_Lok (ld_aload_n_0 (x_dk dn_405_0_3_ok 14 rfl))))))))
  (e_Tok2
  (e_Tok2
  (e_Tok2
  (e_Tok2
  (e_Lok (lk_12_125g ho_405 (x_dk dn_405_0_3_ok 15 rfl)))
  (e_Lok (ld_iload_n_1 (x_dk dn_405_0_3_ok 16 rfl))))
  (e_Tok2
  (e_Lok (sm_iaload (x_dk dn_405_0_3_ok 17 rfl)))
  (e_Lok (sm_iadd (x_dk dn_405_0_3_ok 18 rfl)))))
  (e_Tok2
  (e_Tok2
  (e_Lok (e_st (I := eI) (er_i2l (x_dk dn_405_0_3_ok 19 rfl)) (nx_un (fun _ => rfl))))
  (e_Lok (lk_12_301 ho_405 (x_dk dn_405_0_3_ok 20 rfl))))
  (e_Tok2
  (e_Lok (e_st (I := eI) (er_ifeq (off := 36) (tg := 176) (x_dk dn_405_0_3_ok 21 rfl) (by decide)) nx_if1))
  (e_Tok2
  (e_Lok (ld_lload_6 (x_dk dn_405_0_3_ok 22 rfl)))
  (e_Lok (ld_aload_n_0 (x_dk dn_405_0_3_ok 23 rfl)))))))
  (e_Tok2
  (e_Tok2
  (e_Tok2
  (e_Lok (lk_12_122g ho_405 (x_dk dn_405_0_3_ok 24 rfl)))
  (e_Lok (ld_iload_n_1 (x_dk dn_405_1_0_ok 0 rfl))))
  (e_Tok2
  (e_Lok (sm_iaload (x_dk dn_405_1_0_ok 1 rfl)))
  (e_Lok (e_st (I := eI) (er_i2l (x_dk dn_405_1_0_ok 2 rfl)) (nx_un (fun _ => rfl))))))
  (e_Tok2
  (e_Tok2
  (e_Lok (ld_aload_n_0 (x_dk dn_405_1_0_ok 3 rfl)))
  (e_Lok (lk_12_122g ho_405 (x_dk dn_405_1_0_ok 4 rfl))))
  (e_Tok2
  (e_Lok (ld_iload_n_1 (x_dk dn_405_1_0_ok 5 rfl)))
  (e_Tok2
  (e_Lok (sm_iaload (x_dk dn_405_1_0_ok 6 rfl)))
  (e_Lok (ld_aload_n_0 (x_dk dn_405_1_0_ok 7 rfl)))))))))
def te_405_108 : Nat → eE := (e_T 191 (e_T 173 (e_T 164 (e_T 162 (e_T 159 (e_L 159 (0, ei_getf eft elay 12 47 162, 0, 0)) (e_L 162 (0, ei_load 1 0 163, 0, 0))) (e_T 163 (e_L 163 (0, ei_ald elay false 164, 0, 0)) (e_L 164 (0, ei_bin eF_add 165, 0, 0)))) (e_T 166 (e_T 165 (e_L 165 (0, ei_un (fun x => (4, x)) 166, 0, 0)) (e_L 166 (2, e_nof, 266, 3))) (e_T 169 (e_L 169 (0, ei_if1 0 176 172, 0, 0)) (e_T 172 (e_L 172 (0, ei_push (0, 1) 173, 0, 0)) (e_L 173 (0, ei_goto 177, 0, 0)))))) (e_T 181 (e_T 177 (e_T 176 (e_L 176 (0, ei_push (0, 0) 177, 0, 0)) (e_L 177 (0, ei_stor 14 0 179, 0, 0))) (e_T 179 (e_L 179 (0, ei_load 14 0 181, 0, 0)) (e_L 181 (0, ei_if1 0 213 184, 0, 0)))) (e_T 186 (e_T 184 (e_L 184 (0, ei_load 12 1 186, 0, 0)) (e_L 186 (0, ei_push (4, 0) 187, 0, 0))) (e_T 187 (e_L 187 (0, ei_binL eG_cmp 188, 0, 0)) (e_T 188 (e_L 188 (0, ei_if1 2 211 191, 0, 0)) (e_L 191 (0, ei_load 8 1 193, 0, 0))))))) (e_T 206 (e_T 198 (e_T 195 (e_T 193 (e_L 193 (0, ei_load 8 1 195, 0, 0)) (e_L 195 (0, ei_binL eG_mul 196, 0, 0))) (e_T 196 (e_L 196 (0, ei_load 10 1 198, 0, 0)) (e_L 198 (0, ei_load 10 1 200, 0, 0)))) (e_T 201 (e_T 200 (e_L 200 (0, ei_binL eG_mul 201, 0, 0)) (e_L 201 (0, ei_binL eG_add 202, 0, 0))) (e_T 202 (e_L 202 (0, ei_load 12 1 204, 0, 0)) (e_T 204 (e_L 204 (0, ei_load 12 1 206, 0, 0)) (e_L 206 (0, ei_binL eG_mul 207, 0, 0)))))) (e_T 213 (e_T 208 (e_T 207 (e_L 207 (0, ei_binL eG_cmp 208, 0, 0)) (e_L 208 (0, ei_if1 5 213 211, 0, 0))) (e_T 211 (e_L 211 (0, ei_load 1 0 212, 0, 0)) (e_T 212 (e_L 212 (1, e_nof, 1, 0)) (e_L 213 (0, ei_inc 3 1 216, 0, 0))))) (e_T 219 (e_T 216 (e_L 216 (0, ei_goto 19, 0, 0)) (e_L 219 (0, ei_inc 1 1 222, 0, 0))) (e_T 222 (e_L 222 (0, ei_goto 2, 0, 0)) (e_T 225 (e_L 225 (0, ei_push (0, (-1)) 226, 0, 0)) (e_L 226 (1, e_nof, 1, 0))))))))
set_option maxRecDepth 20000 in
set_option maxHeartbeats 4000000 in
theorem te_405_108_ok : ∀ pc, e_EOq eft cls elay eI n_405 pc (te_405_108 pc) :=
  (e_Tok2
  (e_Tok2
  (e_Tok2
  (e_Tok2
  (e_Tok2
  (e_Lok (lk_12_128g ho_405 (x_dk dn_405_1_0_ok 8 rfl)))
  (e_Lok (ld_iload_n_1 (x_dk dn_405_1_0_ok 9 rfl))))
  (e_Tok2
  (e_Lok (sm_iaload (x_dk dn_405_1_0_ok 10 rfl)))
  (e_Lok (sm_iadd (x_dk dn_405_1_0_ok 11 rfl)))))
  (e_Tok2
  (e_Tok2
  (e_Lok (e_st (I := eI) (er_i2l (x_dk dn_405_1_0_ok 12 rfl)) (nx_un (fun _ => rfl))))
  (e_Lok (lk_12_301 ho_405 (x_dk dn_405_1_0_ok 13 rfl))))
  (e_Tok2
  (e_Lok (e_st (I := eI) (er_ifeq (off := 7) (tg := 176) (x_dk dn_405_1_0_ok 14 rfl) (by decide)) nx_if1))
  (e_Tok2
  (e_Lok (ps_iconst_1 (x_dk dn_405_1_0_ok 15 rfl)))
  (e_Lok (e_st (I := eI) (er_goto (off := 4) (tg := 177) (x_dk dn_405_1_0_ok 16 rfl) (by decide)) nx_goto))))))
  (e_Tok2
  (e_Tok2
  (e_Tok2
  (e_Lok (ps_iconst_0 (x_dk dn_405_1_0_ok 17 rfl)))
  (e_Lok (e_st (I := eI) (er_istore (i := 14) (x_dk dn_405_1_0_ok 18 rfl) (by decide +kernel)) nx_stor)))
  (e_Tok2
  (e_Lok (ld_iload_14 (x_dk dn_405_1_0_ok 19 rfl)))
  (e_Lok (e_st (I := eI) (er_ifeq (off := 32) (tg := 213) (x_dk dn_405_1_0_ok 20 rfl) (by decide)) nx_if1))))
  (e_Tok2
  (e_Tok2
  (e_Lok (ld_lload_12 (x_dk dn_405_1_0_ok 21 rfl)))
  (e_Lok (ps_lconst_0 (x_dk dn_405_1_0_ok 22 rfl))))
  (e_Tok2
  (e_Lok (e_st (I := eI) (er_lcmp (x_dk dn_405_1_0_ok 23 rfl)) (nx_binL bG_lcmp)))
  (e_Tok2
  (e_Lok (e_st (I := eI) (er_iflt (off := 23) (tg := 211) (x_dk dn_405_1_0_ok 24 rfl) (by decide)) nx_if1))
  (e_Lok (ld_lload_8 (x_dk dn_405_1_1_ok 0 rfl))))))))
  (e_Tok2
  (e_Tok2
  (e_Tok2
  (e_Tok2
  (e_Lok (ld_lload_8 (x_dk dn_405_1_1_ok 1 rfl)))
  (e_Lok (e_st (I := eI) (er_lmul (x_dk dn_405_1_1_ok 2 rfl)) (nx_binL bG_lmul))))
  (e_Tok2
  (e_Lok (ld_lload_10 (x_dk dn_405_1_1_ok 3 rfl)))
  (e_Lok (ld_lload_10 (x_dk dn_405_1_1_ok 4 rfl)))))
  (e_Tok2
  (e_Tok2
  (e_Lok (e_st (I := eI) (er_lmul (x_dk dn_405_1_1_ok 5 rfl)) (nx_binL bG_lmul)))
  (e_Lok (e_st (I := eI) (er_ladd (x_dk dn_405_1_1_ok 6 rfl)) (nx_binL bG_ladd))))
  (e_Tok2
  (e_Lok (ld_lload_12 (x_dk dn_405_1_1_ok 7 rfl)))
  (e_Tok2
  (e_Lok (ld_lload_12 (x_dk dn_405_1_1_ok 8 rfl)))
  (e_Lok (e_st (I := eI) (er_lmul (x_dk dn_405_1_1_ok 9 rfl)) (nx_binL bG_lmul)))))))
  (e_Tok2
  (e_Tok2
  (e_Tok2
  (e_Lok (e_st (I := eI) (er_lcmp (x_dk dn_405_1_1_ok 10 rfl)) (nx_binL bG_lcmp)))
  (e_Lok (e_st (I := eI) (er_ifle (off := 5) (tg := 213) (x_dk dn_405_1_1_ok 11 rfl) (by decide)) nx_if1)))
  (e_Tok2
  (e_Lok (ld_iload_n_1 (x_dk dn_405_1_1_ok 12 rfl)))
  (e_Tok2
  (e_Lok (e_rt (I := eI) (k := 1) ⟨(x_dk dn_405_1_1_ok 13 rfl), rfl⟩))
  (e_Lok (e_st (I := eI) (er_iinc (i := 3) (n := 1) (x_dk dn_405_1_1_ok 14 rfl) (by decide +kernel) (by decide)) nx_inc)))))
  (e_Tok2
  (e_Tok2
  (e_Lok (e_st (I := eI) (er_goto (off := (-197)) (tg := 19) (x_dk dn_405_1_1_ok 15 rfl) (by decide)) nx_goto))
  (e_Lok (e_st (I := eI) (er_iinc (i := 1) (n := 1) (x_dk dn_405_1_1_ok 16 rfl) (by decide +kernel) (by decide)) nx_inc)))
  (e_Tok2
  (e_Lok (e_st (I := eI) (er_goto (off := (-220)) (tg := 2) (x_dk dn_405_1_1_ok 17 rfl) (by decide)) nx_goto))
  (e_Tok2
  (e_Lok (ps_iconst_m1 (x_dk dn_405_1_1_ok 18 rfl)))
  (e_Lok (e_rt (I := eI) (k := 1) ⟨(x_dk dn_405_1_1_ok 19 rfl), rfl⟩))))))))
def te_405 : Nat → eE := (e_T 102 (e_T 52 te_405_0 te_405_36) (e_T 158 te_405_72 te_405_108))
theorem te_405_ok : ∀ pc, e_EOq eft cls elay eI n_405 pc (te_405 pc) := (e_Tok2 ((e_Tok2 (te_405_0_ok) (te_405_36_ok))) ((e_Tok2 (te_405_72_ok) (te_405_108_ok))))
theorem ho_406 : (xm_y n_406).cls = "RobotCellHouseModel" := rfl
def dn_406_0_0 : List (Nat × Instr × Nat) := [(0, .aload_n 0, 1), (1, .invokevirtual 786, 3), (4, .istore_n 1, 1), (5, .iconst 0, 1), (6, .istore_n 2, 1), (7, .iload_n 2, 1), (8, .aload_n 0, 1), (9, .getfield 269, 3), (12, .if_icmp .ge 73, 3), (15, .aload_n 0, 1), (16, .getfield 8, 3), (19, .iload_n 2, 1), (20, .invokestatic 294, 3), (23, .bipush 6, 2), (25, .iadd, 1), (26, .iaload, 1), (27, .iconst 1, 1), (28, .if_icmp .ne 22, 3), (31, .aload_n 0, 1), (32, .getfield 8, 3), (35, .iload_n 2, 1), (36, .invokestatic 294, 3), (39, .iconst 5, 1), (40, .iadd, 1), (41, .iaload, 1)]
set_option maxRecDepth 20000 in
theorem dn_406_0_0_ok : dn_406_0_0.all (fun q => decide (decode (xm_b n_406) q.1 = .ok (q.2.1, q.2.2))) = true := xa_g_ok (by decide +kernel)
def dn_406_0_1 : List (Nat × Instr × Nat) := [(42, .iconst 1, 1), (43, .if_icmp .ne 7, 3), (46, .iconst 1, 1), (47, .goto 4, 3), (50, .iconst 0, 1), (51, .istore_n 3, 1), (52, .aload_n 0, 1), (53, .iconst 2, 1), (54, .iload_n 3, 1), (55, .ifCond .eq 20, 3), (58, .aload_n 0, 1), (59, .iload_n 2, 1), (60, .bipush 7, 2), (62, .iload_n 2, 1), (63, .imul, 1), (64, .iconst 0, 1), (65, .invokevirtual 461, 3), (68, .ifCond .eq 7, 3), (71, .iconst 1, 1), (72, .goto 4, 3), (75, .iconst 0, 1), (76, .invokevirtual 765, 3), (79, .iinc 2 1, 3), (82, .goto (-75), 3), (85, .iload_n 1, 1)]
set_option maxRecDepth 20000 in
theorem dn_406_0_1_ok : dn_406_0_1.all (fun q => decide (decode (xm_b n_406) q.1 = .ok (q.2.1, q.2.2))) = true := xa_g_ok (by decide +kernel)
def dn_406_0_2 : List (Nat × Instr × Nat) := [(86, .ifCond .lt 10, 3), (89, .aload_n 0, 1), (90, .iconst 2, 1), (91, .iload_n 1, 1), (92, .invokevirtual 789, 3), (95, .return_, 1), (96, .aload_n 0, 1), (97, .invokevirtual 792, 3), (100, .istore_n 2, 1), (101, .iload_n 2, 1), (102, .ifCond .lt 9, 3), (105, .aload_n 0, 1), (106, .iconst 3, 1), (107, .iload_n 2, 1), (108, .invokevirtual 789, 3), (111, .return_, 1)]
set_option maxRecDepth 20000 in
theorem dn_406_0_2_ok : dn_406_0_2.all (fun q => decide (decode (xm_b n_406) q.1 = .ok (q.2.1, q.2.2))) = true := xa_g_ok (by decide +kernel)
def te_406_0 : Nat → eE := (e_T 26 (e_T 9 (e_T 5 (e_T 1 (e_T 0 (e_L 0 (0, ei_load 0 2 1, 0, 0)) (e_L 1 (2, e_nof, 404, 1))) (e_T 4 (e_L 4 (0, ei_stor 1 0 5, 0, 0)) (e_L 5 (0, ei_push (0, 0) 6, 0, 0)))) (e_T 7 (e_T 6 (e_L 6 (0, ei_stor 2 0 7, 0, 0)) (e_L 7 (0, ei_load 2 0 8, 0, 0))) (e_T 8 (e_L 8 (0, ei_load 0 2 9, 0, 0)) (e_L 9 (0, ei_getf eft elay 12 10 12, 0, 0))))) (e_T 19 (e_T 15 (e_T 12 (e_L 12 (0, ei_if2 3 85 15, 0, 0)) (e_L 15 (0, ei_load 0 2 16, 0, 0))) (e_T 16 (e_L 16 (0, ei_getf eft elay 12 0 19, 0, 0)) (e_L 19 (0, ei_load 2 0 20, 0, 0)))) (e_T 23 (e_T 20 (e_L 20 (2, e_nof, 268, 1)) (e_L 23 (0, ei_push (0, 6) 25, 0, 0))) (e_T 25 (e_L 25 (0, ei_bin eF_add 26, 0, 0)) (e_L 26 (0, ei_ald elay false 27, 0, 0)))))) (e_T 40 (e_T 32 (e_T 28 (e_T 27 (e_L 27 (0, ei_push (0, 1) 28, 0, 0)) (e_L 28 (0, ei_if2 1 50 31, 0, 0))) (e_T 31 (e_L 31 (0, ei_load 0 2 32, 0, 0)) (e_L 32 (0, ei_getf eft elay 12 0 35, 0, 0)))) (e_T 36 (e_T 35 (e_L 35 (0, ei_load 2 0 36, 0, 0)) (e_L 36 (2, e_nof, 268, 1))) (e_T 39 (e_L 39 (0, ei_push (0, 5) 40, 0, 0)) (e_L 40 (0, ei_bin eF_add 41, 0, 0))))) (e_T 46 (e_T 42 (e_T 41 (e_L 41 (0, ei_ald elay false 42, 0, 0)) (e_L 42 (0, ei_push (0, 1) 43, 0, 0))) (e_T 43 (e_L 43 (0, ei_if2 1 50 46, 0, 0)) (e_L 46 (0, ei_push (0, 1) 47, 0, 0)))) (e_T 50 (e_T 47 (e_L 47 (0, ei_goto 51, 0, 0)) (e_L 50 (0, ei_push (0, 0) 51, 0, 0))) (e_T 51 (e_L 51 (0, ei_stor 3 0 52, 0, 0)) (e_T 52 (e_L 52 (0, ei_load 0 2 53, 0, 0)) (e_L 53 (0, ei_push (0, 2) 54, 0, 0))))))))
set_option maxRecDepth 20000 in
set_option maxHeartbeats 4000000 in
theorem te_406_0_ok : ∀ pc, e_EOq eft cls elay eI n_406 pc (te_406_0 pc) :=
  (e_Tok2
  (e_Tok2
  (e_Tok2
  (e_Tok2
  (e_Tok2
  (e_Lok (ld_aload_n_0 (x_dk dn_406_0_0_ok 0 rfl)))
  (e_Lok (lk_12_786 ho_406 (x_dk dn_406_0_0_ok 1 rfl))))
  (e_Tok2
  (e_Lok (e_st (I := eI) (er_istore_n (i := 1) (x_dk dn_406_0_0_ok 2 rfl) (by decide +kernel)) nx_stor))
  (e_Lok (ps_iconst_0 (x_dk dn_406_0_0_ok 3 rfl)))))
  (e_Tok2
  (e_Tok2
  (e_Lok (e_st (I := eI) (er_istore_n (i := 2) (x_dk dn_406_0_0_ok 4 rfl) (by decide +kernel)) nx_stor))
  (e_Lok (ld_iload_n_2 (x_dk dn_406_0_0_ok 5 rfl))))
  (e_Tok2
  (e_Lok (ld_aload_n_0 (x_dk dn_406_0_0_ok 6 rfl)))
  (e_Lok (lk_12_269g ho_406 (x_dk dn_406_0_0_ok 7 rfl))))))
  (e_Tok2
  (e_Tok2
  (e_Tok2
  (e_Lok (e_st (I := eI) (er_icmpge (off := 73) (tg := 85) (x_dk dn_406_0_0_ok 8 rfl) (by decide)) nx_if2))
  (e_Lok (ld_aload_n_0 (x_dk dn_406_0_0_ok 9 rfl))))
  (e_Tok2
  (e_Lok (lk_12_8g ho_406 (x_dk dn_406_0_0_ok 10 rfl)))
  (e_Lok (ld_iload_n_2 (x_dk dn_406_0_0_ok 11 rfl)))))
  (e_Tok2
  (e_Tok2
  (e_Lok (lk_12_294 ho_406 (x_dk dn_406_0_0_ok 12 rfl)))
  (e_Lok (ps_bipush_6 (x_dk dn_406_0_0_ok 13 rfl))))
  (e_Tok2
  (e_Lok (sm_iadd (x_dk dn_406_0_0_ok 14 rfl)))
  (e_Lok (sm_iaload (x_dk dn_406_0_0_ok 15 rfl)))))))
  (e_Tok2
  (e_Tok2
  (e_Tok2
  (e_Tok2
  (e_Lok (ps_iconst_1 (x_dk dn_406_0_0_ok 16 rfl)))
  (e_Lok (e_st (I := eI) (er_icmpne (off := 22) (tg := 50) (x_dk dn_406_0_0_ok 17 rfl) (by decide)) nx_if2)))
  (e_Tok2
  (e_Lok (ld_aload_n_0 (x_dk dn_406_0_0_ok 18 rfl)))
  (e_Lok (lk_12_8g ho_406 (x_dk dn_406_0_0_ok 19 rfl)))))
  (e_Tok2
  (e_Tok2
  (e_Lok (ld_iload_n_2 (x_dk dn_406_0_0_ok 20 rfl)))
  (e_Lok (lk_12_294 ho_406 (x_dk dn_406_0_0_ok 21 rfl))))
  (e_Tok2
  (e_Lok (ps_iconst_5 (x_dk dn_406_0_0_ok 22 rfl)))
  (e_Lok (sm_iadd (x_dk dn_406_0_0_ok 23 rfl))))))
  (e_Tok2
  (e_Tok2
  (e_Tok2
  (e_Lok (sm_iaload (x_dk dn_406_0_0_ok 24 rfl)))
  (e_Lok (ps_iconst_1 (x_dk dn_406_0_1_ok 0 rfl))))
  (e_Tok2
  (e_Lok (e_st (I := eI) (er_icmpne (off := 7) (tg := 50) (x_dk dn_406_0_1_ok 1 rfl) (by decide)) nx_if2))
  (e_Lok (ps_iconst_1 (x_dk dn_406_0_1_ok 2 rfl)))))
  (e_Tok2
  (e_Tok2
  (e_Lok (e_st (I := eI) (er_goto (off := 4) (tg := 51) (x_dk dn_406_0_1_ok 3 rfl) (by decide)) nx_goto))
  (e_Lok (ps_iconst_0 (x_dk dn_406_0_1_ok 4 rfl))))
  (e_Tok2
  (e_Lok (e_st (I := eI) (er_istore_n (i := 3) (x_dk dn_406_0_1_ok 5 rfl) (by decide +kernel)) nx_stor))
  (e_Tok2
  (e_Lok (ld_aload_n_0 (x_dk dn_406_0_1_ok 6 rfl)))
  (e_Lok (ps_iconst_2 (x_dk dn_406_0_1_ok 7 rfl)))))))))
def te_406_33 : Nat → eE := (e_T 82 (e_T 64 (e_T 59 (e_T 55 (e_T 54 (e_L 54 (0, ei_load 3 0 55, 0, 0)) (e_L 55 (0, ei_if1 0 75 58, 0, 0))) (e_T 58 (e_L 58 (0, ei_load 0 2 59, 0, 0)) (e_L 59 (0, ei_load 2 0 60, 0, 0)))) (e_T 62 (e_T 60 (e_L 60 (0, ei_push (0, 7) 62, 0, 0)) (e_L 62 (0, ei_load 2 0 63, 0, 0))) (e_T 63 (e_L 63 (0, ei_bin eF_mul 64, 0, 0)) (e_L 64 (0, ei_push (0, 0) 65, 0, 0))))) (e_T 72 (e_T 68 (e_T 65 (e_L 65 (2, e_nof, 317, 4)) (e_L 68 (0, ei_if1 0 75 71, 0, 0))) (e_T 71 (e_L 71 (0, ei_push (0, 1) 72, 0, 0)) (e_L 72 (0, ei_goto 76, 0, 0)))) (e_T 76 (e_T 75 (e_L 75 (0, ei_push (0, 0) 76, 0, 0)) (e_L 76 (2, e_nof, 389, 3))) (e_T 79 (e_L 79 (0, ei_inc 2 1 82, 0, 0)) (e_L 82 (0, ei_goto 7, 0, 0)))))) (e_T 96 (e_T 90 (e_T 86 (e_T 85 (e_L 85 (0, ei_load 1 0 86, 0, 0)) (e_L 86 (0, ei_if1 2 96 89, 0, 0))) (e_T 89 (e_L 89 (0, ei_load 0 2 90, 0, 0)) (e_L 90 (0, ei_push (0, 2) 91, 0, 0)))) (e_T 92 (e_T 91 (e_L 91 (0, ei_load 1 0 92, 0, 0)) (e_L 92 (2, e_nof, 385, 3))) (e_T 95 (e_L 95 (1, e_nof, 0, 0)) (e_L 96 (0, ei_load 0 2 97, 0, 0))))) (e_T 102 (e_T 100 (e_T 97 (e_L 97 (2, e_nof, 405, 1)) (e_L 100 (0, ei_stor 2 0 101, 0, 0))) (e_T 101 (e_L 101 (0, ei_load 2 0 102, 0, 0)) (e_L 102 (0, ei_if1 2 111 105, 0, 0)))) (e_T 106 (e_T 105 (e_L 105 (0, ei_load 0 2 106, 0, 0)) (e_L 106 (0, ei_push (0, 3) 107, 0, 0))) (e_T 107 (e_L 107 (0, ei_load 2 0 108, 0, 0)) (e_T 108 (e_L 108 (2, e_nof, 385, 3)) (e_L 111 (1, e_nof, 0, 0))))))))
set_option maxRecDepth 20000 in
set_option maxHeartbeats 4000000 in
theorem te_406_33_ok : ∀ pc, e_EOq eft cls elay eI n_406 pc (te_406_33 pc) :=
  (e_Tok2
  (e_Tok2
  (e_Tok2
  (e_Tok2
  (e_Tok2
  (e_Lok (ld_iload_n_3 (x_dk dn_406_0_1_ok 8 rfl)))
  (e_Lok (e_st (I := eI) (er_ifeq (off := 20) (tg := 75) (x_dk dn_406_0_1_ok 9 rfl) (by decide)) nx_if1)))
  (e_Tok2
  (e_Lok (ld_aload_n_0 (x_dk dn_406_0_1_ok 10 rfl)))
  (e_Lok (ld_iload_n_2 (x_dk dn_406_0_1_ok 11 rfl)))))
  (e_Tok2
  (e_Tok2
  (e_Lok (ps_bipush_7 (x_dk dn_406_0_1_ok 12 rfl)))
  (e_Lok (ld_iload_n_2 (x_dk dn_406_0_1_ok 13 rfl))))
  (e_Tok2
  (e_Lok (sm_imul (x_dk dn_406_0_1_ok 14 rfl)))
  (e_Lok (ps_iconst_0 (x_dk dn_406_0_1_ok 15 rfl))))))
  (e_Tok2
  (e_Tok2
  (e_Tok2
  (e_Lok (lk_12_461 ho_406 (x_dk dn_406_0_1_ok 16 rfl)))
  (e_Lok (e_st (I := eI) (er_ifeq (off := 7) (tg := 75) (x_dk dn_406_0_1_ok 17 rfl) (by decide)) nx_if1)))
  (e_Tok2
  (e_Lok (ps_iconst_1 (x_dk dn_406_0_1_ok 18 rfl)))
  (e_Lok (e_st (I := eI) (er_goto (off := 4) (tg := 76) (x_dk dn_406_0_1_ok 19 rfl) (by decide)) nx_goto))))
  (e_Tok2
  (e_Tok2
  (e_Lok (ps_iconst_0 (x_dk dn_406_0_1_ok 20 rfl)))
  (e_Lok (lk_12_765 ho_406 (x_dk dn_406_0_1_ok 21 rfl))))
  (e_Tok2
  (e_Lok (e_st (I := eI) (er_iinc (i := 2) (n := 1) (x_dk dn_406_0_1_ok 22 rfl) (by decide +kernel) (by decide)) nx_inc))
  (e_Lok (e_st (I := eI) (er_goto (off := (-75)) (tg := 7) (x_dk dn_406_0_1_ok 23 rfl) (by decide)) nx_goto))))))
  (e_Tok2
  (e_Tok2
  (e_Tok2
  (e_Tok2
  (e_Lok (ld_iload_n_1 (x_dk dn_406_0_1_ok 24 rfl)))
  (e_Lok (e_st (I := eI) (er_iflt (off := 10) (tg := 96) (x_dk dn_406_0_2_ok 0 rfl) (by decide)) nx_if1)))
  (e_Tok2
  (e_Lok (ld_aload_n_0 (x_dk dn_406_0_2_ok 1 rfl)))
  (e_Lok (ps_iconst_2 (x_dk dn_406_0_2_ok 2 rfl)))))
  (e_Tok2
  (e_Tok2
  (e_Lok (ld_iload_n_1 (x_dk dn_406_0_2_ok 3 rfl)))
  (e_Lok (lk_12_789 ho_406 (x_dk dn_406_0_2_ok 4 rfl))))
  (e_Tok2
  (e_Lok (e_rt (I := eI) (k := 0) ⟨(x_dk dn_406_0_2_ok 5 rfl), rfl⟩))
  (e_Lok (ld_aload_n_0 (x_dk dn_406_0_2_ok 6 rfl))))))
  (e_Tok2
  (e_Tok2
  (e_Tok2
  (e_Lok (lk_12_792 ho_406 (x_dk dn_406_0_2_ok 7 rfl)))
  (e_Lok (e_st (I := eI) (er_istore_n (i := 2) (x_dk dn_406_0_2_ok 8 rfl) (by decide +kernel)) nx_stor)))
  (e_Tok2
  (e_Lok (ld_iload_n_2 (x_dk dn_406_0_2_ok 9 rfl)))
  (e_Lok (e_st (I := eI) (er_iflt (off := 9) (tg := 111) (x_dk dn_406_0_2_ok 10 rfl) (by decide)) nx_if1))))
  (e_Tok2
  (e_Tok2
  (e_Lok (ld_aload_n_0 (x_dk dn_406_0_2_ok 11 rfl)))
  (e_Lok (ps_iconst_3 (x_dk dn_406_0_2_ok 12 rfl))))
  (e_Tok2
  (e_Lok (ld_iload_n_2 (x_dk dn_406_0_2_ok 13 rfl)))
  (e_Tok2
  (e_Lok (lk_12_789 ho_406 (x_dk dn_406_0_2_ok 14 rfl)))
  (e_Lok (e_rt (I := eI) (k := 0) ⟨(x_dk dn_406_0_2_ok 15 rfl), rfl⟩))))))))
def te_406 : Nat → eE := (e_T 53 te_406_0 te_406_33)
theorem te_406_ok : ∀ pc, e_EOq eft cls elay eI n_406 pc (te_406 pc) := (e_Tok2 (te_406_0_ok) (te_406_33_ok))
theorem ho_407 : (xm_y n_407).cls = "RobotCellHouseModel" := rfl
def dn_407_0_0 : List (Nat × Instr × Nat) := [(0, .iconst 0, 1), (1, .istore_n 1, 1), (2, .iload_n 1, 1), (3, .aload_n 0, 1), (4, .getfield 279, 3), (7, .if_icmp .ge 143, 3), (10, .aload_n 0, 1), (11, .getfield 8, 3), (14, .iload_n 1, 1), (15, .invokestatic 774, 3), (18, .iaload, 1), (19, .bipush 8, 2), (21, .if_icmp .ne 7, 3), (24, .iconst 1, 1), (25, .goto 4, 3), (28, .iconst 0, 1), (29, .istore_n 2, 1), (30, .iconst 0, 1), (31, .istore_n 3, 1), (32, .iload_n 3, 1), (33, .iconst 4, 1), (34, .if_icmp .ge 95, 3), (37, .iload_n 2, 1), (38, .iload_n 3, 1), (39, .aload_n 0, 1)]
set_option maxRecDepth 20000 in
theorem dn_407_0_0_ok : dn_407_0_0.all (fun q => decide (decode (xm_b n_407) q.1 = .ok (q.2.1, q.2.2))) = true := xa_g_ok (by decide +kernel)
def dn_407_0_1 : List (Nat × Instr × Nat) := [(40, .getfield 269, 3), (43, .if_icmp .ge 22, 3), (46, .aload_n 0, 1), (47, .getfield 8, 3), (50, .iload_n 3, 1), (51, .invokestatic 294, 3), (54, .iconst 1, 1), (55, .iadd, 1), (56, .iaload, 1), (57, .iload_n 1, 1), (58, .if_icmp .ne 7, 3), (61, .iconst 1, 1), (62, .goto 4, 3), (65, .iconst 0, 1), (66, .iadd, 1), (67, .istore_n 2, 1), (68, .iconst 1, 1), (69, .istore 4, 2), (71, .iload 4, 2), (73, .aload_n 0, 1), (74, .getfield 8, 3), (77, .sipush 20704, 3), (80, .bipush 33, 2), (82, .iload_n 3, 1), (83, .imul, 1)]
set_option maxRecDepth 20000 in
theorem dn_407_0_1_ok : dn_407_0_1.all (fun q => decide (decode (xm_b n_407) q.1 = .ok (q.2.1, q.2.2))) = true := xa_g_ok (by decide +kernel)
def dn_407_0_2 : List (Nat × Instr × Nat) := [(84, .iadd, 1), (85, .iaload, 1), (86, .if_icmp .gt 37, 3), (89, .iload_n 2, 1), (90, .aload_n 0, 1), (91, .getfield 8, 3), (94, .sipush 20704, 3), (97, .bipush 33, 2), (99, .iload_n 3, 1), (100, .imul, 1), (101, .iadd, 1), (102, .iload 4, 2), (104, .iadd, 1), (105, .iaload, 1), (106, .iload_n 1, 1), (107, .if_icmp .ne 7, 3), (110, .iconst 1, 1), (111, .goto 4, 3), (114, .iconst 0, 1), (115, .iadd, 1), (116, .istore_n 2, 1), (117, .iinc 4 1, 3), (120, .goto (-49), 3), (123, .iinc 3 1, 3), (126, .goto (-94), 3)]
set_option maxRecDepth 20000 in
theorem dn_407_0_2_ok : dn_407_0_2.all (fun q => decide (decode (xm_b n_407) q.1 = .ok (q.2.1, q.2.2))) = true := xa_g_ok (by decide +kernel)
def dn_407_0_3 : List (Nat × Instr × Nat) := [(129, .aload_n 0, 1), (130, .iconst 3, 1), (131, .iload_n 2, 1), (132, .iconst 1, 1), (133, .if_icmp .eq 7, 3), (136, .iconst 1, 1), (137, .goto 4, 3), (140, .iconst 0, 1), (141, .invokevirtual 765, 3), (144, .iinc 1 1, 3), (147, .goto (-145), 3), (150, .return_, 1)]
set_option maxRecDepth 20000 in
theorem dn_407_0_3_ok : dn_407_0_3.all (fun q => decide (decode (xm_b n_407) q.1 = .ok (q.2.1, q.2.2))) = true := xa_g_ok (by decide +kernel)
def te_407_0 : Nat → eE := (e_T 15 (e_T 4 (e_T 1 (e_T 0 (e_L 0 (0, ei_push (0, 0) 1, 0, 0)) (e_L 1 (0, ei_stor 1 0 2, 0, 0))) (e_T 2 (e_L 2 (0, ei_load 1 0 3, 0, 0)) (e_T 3 (e_L 3 (0, ei_load 0 2 4, 0, 0)) (e_L 4 (0, ei_getf eft elay 12 40 7, 0, 0))))) (e_T 10 (e_T 7 (e_L 7 (0, ei_if2 3 150 10, 0, 0)) (e_L 10 (0, ei_load 0 2 11, 0, 0))) (e_T 11 (e_L 11 (0, ei_getf eft elay 12 0 14, 0, 0)) (e_T 14 (e_L 14 (0, ei_load 1 0 15, 0, 0)) (e_L 15 (2, e_nof, 392, 1)))))) (e_T 25 (e_T 19 (e_T 18 (e_L 18 (0, ei_ald elay false 19, 0, 0)) (e_L 19 (0, ei_push (0, 8) 21, 0, 0))) (e_T 21 (e_L 21 (0, ei_if2 1 28 24, 0, 0)) (e_T 24 (e_L 24 (0, ei_push (0, 1) 25, 0, 0)) (e_L 25 (0, ei_goto 29, 0, 0))))) (e_T 30 (e_T 28 (e_L 28 (0, ei_push (0, 0) 29, 0, 0)) (e_T 29 (e_L 29 (0, ei_stor 2 0 30, 0, 0)) (e_L 30 (0, ei_push (0, 0) 31, 0, 0)))) (e_T 31 (e_L 31 (0, ei_stor 3 0 32, 0, 0)) (e_T 32 (e_L 32 (0, ei_load 3 0 33, 0, 0)) (e_L 33 (0, ei_push (0, 4) 34, 0, 0)))))))
set_option maxRecDepth 20000 in
set_option maxHeartbeats 4000000 in
theorem te_407_0_ok : ∀ pc, e_EOq eft cls elay eI n_407 pc (te_407_0 pc) :=
  (e_Tok2
  (e_Tok2
  (e_Tok2
  (e_Tok2
  (e_Lok (ps_iconst_0 (x_dk dn_407_0_0_ok 0 rfl)))
  (e_Lok (e_st (I := eI) (er_istore_n (i := 1) (x_dk dn_407_0_0_ok 1 rfl) (by decide +kernel)) nx_stor)))
  (e_Tok2
  (e_Lok (ld_iload_n_1 (x_dk dn_407_0_0_ok 2 rfl)))
  (e_Tok2
  (e_Lok (ld_aload_n_0 (x_dk dn_407_0_0_ok 3 rfl)))
  (e_Lok (lk_12_279g ho_407 (x_dk dn_407_0_0_ok 4 rfl))))))
  (e_Tok2
  (e_Tok2
  (e_Lok (e_st (I := eI) (er_icmpge (off := 143) (tg := 150) (x_dk dn_407_0_0_ok 5 rfl) (by decide)) nx_if2))
  (e_Lok (ld_aload_n_0 (x_dk dn_407_0_0_ok 6 rfl))))
  (e_Tok2
  (e_Lok (lk_12_8g ho_407 (x_dk dn_407_0_0_ok 7 rfl)))
  (e_Tok2
  (e_Lok (ld_iload_n_1 (x_dk dn_407_0_0_ok 8 rfl)))
  (e_Lok (lk_12_774 ho_407 (x_dk dn_407_0_0_ok 9 rfl)))))))
  (e_Tok2
  (e_Tok2
  (e_Tok2
  (e_Lok (sm_iaload (x_dk dn_407_0_0_ok 10 rfl)))
  (e_Lok (ps_bipush_8 (x_dk dn_407_0_0_ok 11 rfl))))
  (e_Tok2
  (e_Lok (e_st (I := eI) (er_icmpne (off := 7) (tg := 28) (x_dk dn_407_0_0_ok 12 rfl) (by decide)) nx_if2))
  (e_Tok2
  (e_Lok (ps_iconst_1 (x_dk dn_407_0_0_ok 13 rfl)))
  (e_Lok (e_st (I := eI) (er_goto (off := 4) (tg := 29) (x_dk dn_407_0_0_ok 14 rfl) (by decide)) nx_goto)))))
  (e_Tok2
  (e_Tok2
  (e_Lok (ps_iconst_0 (x_dk dn_407_0_0_ok 15 rfl)))
  (e_Tok2
  (e_Lok (e_st (I := eI) (er_istore_n (i := 2) (x_dk dn_407_0_0_ok 16 rfl) (by decide +kernel)) nx_stor))
  (e_Lok (ps_iconst_0 (x_dk dn_407_0_0_ok 17 rfl)))))
  (e_Tok2
  (e_Lok (e_st (I := eI) (er_istore_n (i := 3) (x_dk dn_407_0_0_ok 18 rfl) (by decide +kernel)) nx_stor))
  (e_Tok2
  (e_Lok (ld_iload_n_3 (x_dk dn_407_0_0_ok 19 rfl)))
  (e_Lok (ps_iconst_4 (x_dk dn_407_0_0_ok 20 rfl))))))))
def te_407_21 : Nat → eE := (e_T 54 (e_T 40 (e_T 37 (e_T 34 (e_L 34 (0, ei_if2 3 129 37, 0, 0)) (e_L 37 (0, ei_load 2 0 38, 0, 0))) (e_T 38 (e_L 38 (0, ei_load 3 0 39, 0, 0)) (e_T 39 (e_L 39 (0, ei_load 0 2 40, 0, 0)) (e_L 40 (0, ei_getf eft elay 12 10 43, 0, 0))))) (e_T 47 (e_T 43 (e_L 43 (0, ei_if2 3 65 46, 0, 0)) (e_T 46 (e_L 46 (0, ei_load 0 2 47, 0, 0)) (e_L 47 (0, ei_getf eft elay 12 0 50, 0, 0)))) (e_T 50 (e_L 50 (0, ei_load 3 0 51, 0, 0)) (e_T 51 (e_L 51 (2, e_nof, 268, 1)) (e_L 54 (0, ei_push (0, 1) 55, 0, 0)))))) (e_T 61 (e_T 56 (e_T 55 (e_L 55 (0, ei_bin eF_add 56, 0, 0)) (e_L 56 (0, ei_ald elay false 57, 0, 0))) (e_T 57 (e_L 57 (0, ei_load 1 0 58, 0, 0)) (e_T 58 (e_L 58 (0, ei_if2 1 65 61, 0, 0)) (e_L 61 (0, ei_push (0, 1) 62, 0, 0))))) (e_T 66 (e_T 62 (e_L 62 (0, ei_goto 66, 0, 0)) (e_T 65 (e_L 65 (0, ei_push (0, 0) 66, 0, 0)) (e_L 66 (0, ei_bin eF_add 67, 0, 0)))) (e_T 67 (e_L 67 (0, ei_stor 2 0 68, 0, 0)) (e_T 68 (e_L 68 (0, ei_push (0, 1) 69, 0, 0)) (e_L 69 (0, ei_stor 4 0 71, 0, 0)))))))
set_option maxRecDepth 20000 in
set_option maxHeartbeats 4000000 in
theorem te_407_21_ok : ∀ pc, e_EOq eft cls elay eI n_407 pc (te_407_21 pc) :=
  (e_Tok2
  (e_Tok2
  (e_Tok2
  (e_Tok2
  (e_Lok (e_st (I := eI) (er_icmpge (off := 95) (tg := 129) (x_dk dn_407_0_0_ok 21 rfl) (by decide)) nx_if2))
  (e_Lok (ld_iload_n_2 (x_dk dn_407_0_0_ok 22 rfl))))
  (e_Tok2
  (e_Lok (ld_iload_n_3 (x_dk dn_407_0_0_ok 23 rfl)))
  (e_Tok2
  (e_Lok (ld_aload_n_0 (x_dk dn_407_0_0_ok 24 rfl)))
  (e_Lok (lk_12_269g ho_407 (x_dk dn_407_0_1_ok 0 rfl))))))
  (e_Tok2
  (e_Tok2
  (e_Lok (e_st (I := eI) (er_icmpge (off := 22) (tg := 65) (x_dk dn_407_0_1_ok 1 rfl) (by decide)) nx_if2))
  (e_Tok2
  (e_Lok (ld_aload_n_0 (x_dk dn_407_0_1_ok 2 rfl)))
  (e_Lok (lk_12_8g ho_407 (x_dk dn_407_0_1_ok 3 rfl)))))
  (e_Tok2
  (e_Lok (ld_iload_n_3 (x_dk dn_407_0_1_ok 4 rfl)))
  (e_Tok2
  (e_Lok (lk_12_294 ho_407 (x_dk dn_407_0_1_ok 5 rfl)))
  (e_Lok (ps_iconst_1 (x_dk dn_407_0_1_ok 6 rfl)))))))
  (e_Tok2
  (e_Tok2
  (e_Tok2
  (e_Lok (sm_iadd (x_dk dn_407_0_1_ok 7 rfl)))
  (e_Lok (sm_iaload (x_dk dn_407_0_1_ok 8 rfl))))
  (e_Tok2
  (e_Lok (ld_iload_n_1 (x_dk dn_407_0_1_ok 9 rfl)))
  (e_Tok2
  (e_Lok (e_st (I := eI) (er_icmpne (off := 7) (tg := 65) (x_dk dn_407_0_1_ok 10 rfl) (by decide)) nx_if2))
  (e_Lok (ps_iconst_1 (x_dk dn_407_0_1_ok 11 rfl))))))
  (e_Tok2
  (e_Tok2
  (e_Lok (e_st (I := eI) (er_goto (off := 4) (tg := 66) (x_dk dn_407_0_1_ok 12 rfl) (by decide)) nx_goto))
  (e_Tok2
  (e_Lok (ps_iconst_0 (x_dk dn_407_0_1_ok 13 rfl)))
  (e_Lok (sm_iadd (x_dk dn_407_0_1_ok 14 rfl)))))
  (e_Tok2
  (e_Lok (e_st (I := eI) (er_istore_n (i := 2) (x_dk dn_407_0_1_ok 15 rfl) (by decide +kernel)) nx_stor))
  (e_Tok2
  (e_Lok (ps_iconst_1 (x_dk dn_407_0_1_ok 16 rfl)))
  (e_Lok (e_st (I := eI) (er_istore (i := 4) (x_dk dn_407_0_1_ok 17 rfl) (by decide +kernel)) nx_stor)))))))
def te_407_43 : Nat → eE := (e_T 89 (e_T 80 (e_T 73 (e_T 71 (e_L 71 (0, ei_load 4 0 73, 0, 0)) (e_L 73 (0, ei_load 0 2 74, 0, 0))) (e_T 74 (e_L 74 (0, ei_getf eft elay 12 0 77, 0, 0)) (e_T 77 (e_L 77 (0, ei_push (0, 20704) 80, 0, 0)) (e_L 80 (0, ei_push (0, 33) 82, 0, 0))))) (e_T 84 (e_T 82 (e_L 82 (0, ei_load 3 0 83, 0, 0)) (e_T 83 (e_L 83 (0, ei_bin eF_mul 84, 0, 0)) (e_L 84 (0, ei_bin eF_add 85, 0, 0)))) (e_T 85 (e_L 85 (0, ei_ald elay false 86, 0, 0)) (e_T 86 (e_L 86 (0, ei_if2 4 123 89, 0, 0)) (e_L 89 (0, ei_load 2 0 90, 0, 0)))))) (e_T 99 (e_T 91 (e_T 90 (e_L 90 (0, ei_load 0 2 91, 0, 0)) (e_L 91 (0, ei_getf eft elay 12 0 94, 0, 0))) (e_T 94 (e_L 94 (0, ei_push (0, 20704) 97, 0, 0)) (e_T 97 (e_L 97 (0, ei_push (0, 33) 99, 0, 0)) (e_L 99 (0, ei_load 3 0 100, 0, 0))))) (e_T 102 (e_T 100 (e_L 100 (0, ei_bin eF_mul 101, 0, 0)) (e_T 101 (e_L 101 (0, ei_bin eF_add 102, 0, 0)) (e_L 102 (0, ei_load 4 0 104, 0, 0)))) (e_T 104 (e_L 104 (0, ei_bin eF_add 105, 0, 0)) (e_T 105 (e_L 105 (0, ei_ald elay false 106, 0, 0)) (e_L 106 (0, ei_load 1 0 107, 0, 0)))))))
set_option maxRecDepth 20000 in
set_option maxHeartbeats 4000000 in
theorem te_407_43_ok : ∀ pc, e_EOq eft cls elay eI n_407 pc (te_407_43 pc) :=
  (e_Tok2
  (e_Tok2
  (e_Tok2
  (e_Tok2
  (e_Lok (ld_iload_4 (x_dk dn_407_0_1_ok 18 rfl)))
  (e_Lok (ld_aload_n_0 (x_dk dn_407_0_1_ok 19 rfl))))
  (e_Tok2
  (e_Lok (lk_12_8g ho_407 (x_dk dn_407_0_1_ok 20 rfl)))
  (e_Tok2
  (e_Lok (ps_sipush_20704 (x_dk dn_407_0_1_ok 21 rfl)))
  (e_Lok (ps_bipush_33 (x_dk dn_407_0_1_ok 22 rfl))))))
  (e_Tok2
  (e_Tok2
  (e_Lok (ld_iload_n_3 (x_dk dn_407_0_1_ok 23 rfl)))
  (e_Tok2
  (e_Lok (sm_imul (x_dk dn_407_0_1_ok 24 rfl)))
  (e_Lok (sm_iadd (x_dk dn_407_0_2_ok 0 rfl)))))
  (e_Tok2
  (e_Lok (sm_iaload (x_dk dn_407_0_2_ok 1 rfl)))
  (e_Tok2
  (e_Lok (e_st (I := eI) (er_icmpgt (off := 37) (tg := 123) (x_dk dn_407_0_2_ok 2 rfl) (by decide)) nx_if2))
  (e_Lok (ld_iload_n_2 (x_dk dn_407_0_2_ok 3 rfl)))))))
  (e_Tok2
  (e_Tok2
  (e_Tok2
  (e_Lok (ld_aload_n_0 (x_dk dn_407_0_2_ok 4 rfl)))
  (e_Lok (lk_12_8g ho_407 (x_dk dn_407_0_2_ok 5 rfl))))
  (e_Tok2
  (e_Lok (ps_sipush_20704 (x_dk dn_407_0_2_ok 6 rfl)))
  (e_Tok2
  (e_Lok (ps_bipush_33 (x_dk dn_407_0_2_ok 7 rfl)))
  (e_Lok (ld_iload_n_3 (x_dk dn_407_0_2_ok 8 rfl))))))
  (e_Tok2
  (e_Tok2
  (e_Lok (sm_imul (x_dk dn_407_0_2_ok 9 rfl)))
  (e_Tok2
  (e_Lok (sm_iadd (x_dk dn_407_0_2_ok 10 rfl)))
  (e_Lok (ld_iload_4 (x_dk dn_407_0_2_ok 11 rfl)))))
  (e_Tok2
  (e_Lok (sm_iadd (x_dk dn_407_0_2_ok 12 rfl)))
  (e_Tok2
  (e_Lok (sm_iaload (x_dk dn_407_0_2_ok 13 rfl)))
  (e_Lok (ld_iload_n_1 (x_dk dn_407_0_2_ok 14 rfl))))))))
def te_407_65 : Nat → eE := (e_T 129 (e_T 115 (e_T 110 (e_T 107 (e_L 107 (0, ei_if2 1 114 110, 0, 0)) (e_L 110 (0, ei_push (0, 1) 111, 0, 0))) (e_T 111 (e_L 111 (0, ei_goto 115, 0, 0)) (e_T 114 (e_L 114 (0, ei_push (0, 0) 115, 0, 0)) (e_L 115 (0, ei_bin eF_add 116, 0, 0))))) (e_T 120 (e_T 116 (e_L 116 (0, ei_stor 2 0 117, 0, 0)) (e_T 117 (e_L 117 (0, ei_inc 4 1 120, 0, 0)) (e_L 120 (0, ei_goto 71, 0, 0)))) (e_T 123 (e_L 123 (0, ei_inc 3 1 126, 0, 0)) (e_T 126 (e_L 126 (0, ei_goto 32, 0, 0)) (e_L 129 (0, ei_load 0 2 130, 0, 0)))))) (e_T 136 (e_T 131 (e_T 130 (e_L 130 (0, ei_push (0, 3) 131, 0, 0)) (e_L 131 (0, ei_load 2 0 132, 0, 0))) (e_T 132 (e_L 132 (0, ei_push (0, 1) 133, 0, 0)) (e_T 133 (e_L 133 (0, ei_if2 0 140 136, 0, 0)) (e_L 136 (0, ei_push (0, 1) 137, 0, 0))))) (e_T 141 (e_T 137 (e_L 137 (0, ei_goto 141, 0, 0)) (e_T 140 (e_L 140 (0, ei_push (0, 0) 141, 0, 0)) (e_L 141 (2, e_nof, 389, 3)))) (e_T 144 (e_L 144 (0, ei_inc 1 1 147, 0, 0)) (e_T 147 (e_L 147 (0, ei_goto 2, 0, 0)) (e_L 150 (1, e_nof, 0, 0)))))))
set_option maxRecDepth 20000 in
set_option maxHeartbeats 4000000 in
theorem te_407_65_ok : ∀ pc, e_EOq eft cls elay eI n_407 pc (te_407_65 pc) :=
  (e_Tok2
  (e_Tok2
  (e_Tok2
  (e_Tok2
  (e_Lok (e_st (I := eI) (er_icmpne (off := 7) (tg := 114) (x_dk dn_407_0_2_ok 15 rfl) (by decide)) nx_if2))
  (e_Lok (ps_iconst_1 (x_dk dn_407_0_2_ok 16 rfl))))
  (e_Tok2
  (e_Lok (e_st (I := eI) (er_goto (off := 4) (tg := 115) (x_dk dn_407_0_2_ok 17 rfl) (by decide)) nx_goto))
  (e_Tok2
  (e_Lok (ps_iconst_0 (x_dk dn_407_0_2_ok 18 rfl)))
  (e_Lok (sm_iadd (x_dk dn_407_0_2_ok 19 rfl))))))
  (e_Tok2
  (e_Tok2
  (e_Lok (e_st (I := eI) (er_istore_n (i := 2) (x_dk dn_407_0_2_ok 20 rfl) (by decide +kernel)) nx_stor))
  (e_Tok2
  (e_Lok (e_st (I := eI) (er_iinc (i := 4) (n := 1) (x_dk dn_407_0_2_ok 21 rfl) (by decide +kernel) (by decide)) nx_inc))
  (e_Lok (e_st (I := eI) (er_goto (off := (-49)) (tg := 71) (x_dk dn_407_0_2_ok 22 rfl) (by decide)) nx_goto))))
  (e_Tok2
  (e_Lok (e_st (I := eI) (er_iinc (i := 3) (n := 1) (x_dk dn_407_0_2_ok 23 rfl) (by decide +kernel) (by decide)) nx_inc))
  (e_Tok2
  (e_Lok (e_st (I := eI) (er_goto (off := (-94)) (tg := 32) (x_dk dn_407_0_2_ok 24 rfl) (by decide)) nx_goto))
  (e_Lok (ld_aload_n_0 (x_dk dn_407_0_3_ok 0 rfl)))))))
  (e_Tok2
  (e_Tok2
  (e_Tok2
  (e_Lok (ps_iconst_3 (x_dk dn_407_0_3_ok 1 rfl)))
  (e_Lok (ld_iload_n_2 (x_dk dn_407_0_3_ok 2 rfl))))
  (e_Tok2
  (e_Lok (ps_iconst_1 (x_dk dn_407_0_3_ok 3 rfl)))
  (e_Tok2
  (e_Lok (e_st (I := eI) (er_icmpeq (off := 7) (tg := 140) (x_dk dn_407_0_3_ok 4 rfl) (by decide)) nx_if2))
  (e_Lok (ps_iconst_1 (x_dk dn_407_0_3_ok 5 rfl))))))
  (e_Tok2
  (e_Tok2
  (e_Lok (e_st (I := eI) (er_goto (off := 4) (tg := 141) (x_dk dn_407_0_3_ok 6 rfl) (by decide)) nx_goto))
  (e_Tok2
  (e_Lok (ps_iconst_0 (x_dk dn_407_0_3_ok 7 rfl)))
  (e_Lok (lk_12_765 ho_407 (x_dk dn_407_0_3_ok 8 rfl)))))
  (e_Tok2
  (e_Lok (e_st (I := eI) (er_iinc (i := 1) (n := 1) (x_dk dn_407_0_3_ok 9 rfl) (by decide +kernel) (by decide)) nx_inc))
  (e_Tok2
  (e_Lok (e_st (I := eI) (er_goto (off := (-145)) (tg := 2) (x_dk dn_407_0_3_ok 10 rfl) (by decide)) nx_goto))
  (e_Lok (e_rt (I := eI) (k := 0) ⟨(x_dk dn_407_0_3_ok 11 rfl), rfl⟩)))))))
def te_407 : Nat → eE := (e_T 69 (e_T 33 te_407_0 te_407_21) (e_T 106 te_407_43 te_407_65))
theorem te_407_ok : ∀ pc, e_EOq eft cls elay eI n_407 pc (te_407 pc) := (e_Tok2 ((e_Tok2 (te_407_0_ok) (te_407_21_ok))) ((e_Tok2 (te_407_43_ok) (te_407_65_ok))))
theorem ho_408 : (xm_y n_408).cls = "RobotCellHouseModel" := rfl
def dn_408_0_0 : List (Nat × Instr × Nat) := [(0, .aload_n 0, 1), (1, .getfield 8, 3), (4, .iconst 0, 1), (5, .dup2, 1), (6, .iaload, 1), (7, .iconst 1, 1), (8, .iadd, 1), (9, .iastore, 1), (10, .aload_n 0, 1), (11, .invokevirtual 795, 3), (14, .aload_n 0, 1), (15, .getfield 8, 3), (18, .iconst 1, 1), (19, .iaload, 1), (20, .iconst 1, 1), (21, .if_icmp .ne 10, 3), (24, .aload_n 0, 1), (25, .invokevirtual 798, 3), (28, .goto 4, 3), (31, .iconst (-1), 1), (32, .istore_n 1, 1), (33, .iload_n 1, 1), (34, .ifCond .lt 9, 3), (37, .aload_n 0, 1), (38, .iconst 1, 1)]
set_option maxRecDepth 20000 in
theorem dn_408_0_0_ok : dn_408_0_0.all (fun q => decide (decode (xm_b n_408) q.1 = .ok (q.2.1, q.2.2))) = true := xa_g_ok (by decide +kernel)
def dn_408_0_1 : List (Nat × Instr × Nat) := [(39, .iload_n 1, 1), (40, .invokevirtual 789, 3), (43, .iconst 0, 1), (44, .istore_n 2, 1), (45, .iload_n 2, 1), (46, .bipush 16, 2), (48, .if_icmp .ge 79, 3), (51, .aload_n 0, 1), (52, .getfield 8, 3), (55, .iload_n 2, 1), (56, .invokestatic 298, 3), (59, .iaload, 1), (60, .istore_n 3, 1), (61, .iload_n 3, 1), (62, .ifCond .le 59, 3), (65, .iload_n 3, 1), (66, .bipush 6, 2), (68, .if_icmp .ge 53, 3), (71, .aload_n 0, 1), (72, .getfield 8, 3), (75, .iload_n 2, 1), (76, .invokestatic 298, 3), (79, .bipush 11, 2), (81, .iadd, 1), (82, .iaload, 1)]
set_option maxRecDepth 20000 in
theorem dn_408_0_1_ok : dn_408_0_1.all (fun q => decide (decode (xm_b n_408) q.1 = .ok (q.2.1, q.2.2))) = true := xa_g_ok (by decide +kernel)
def dn_408_0_2 : List (Nat × Instr × Nat) := [(83, .aload_n 0, 1), (84, .getfield 8, 3), (87, .iconst 0, 1), (88, .iaload, 1), (89, .if_icmp .gt 32, 3), (92, .aload_n 0, 1), (93, .getfield 8, 3), (96, .aload_n 0, 1), (97, .getfield 8, 3), (100, .iload_n 2, 1), (101, .invokestatic 298, 3), (104, .iconst 1, 1), (105, .iadd, 1), (106, .iaload, 1), (107, .invokestatic 294, 3), (110, .iconst 2, 1), (111, .iadd, 1), (112, .iaload, 1), (113, .ifCond .ge 8, 3), (116, .aload_n 0, 1), (117, .iload_n 2, 1), (118, .invokevirtual 801, 3), (121, .iinc 2 1, 3), (124, .goto (-79), 3), (127, .aload_n 0, 1)]
set_option maxRecDepth 20000 in
theorem dn_408_0_2_ok : dn_408_0_2.all (fun q => decide (decode (xm_b n_408) q.1 = .ok (q.2.1, q.2.2))) = true := xa_g_ok (by decide +kernel)
def dn_408_0_3 : List (Nat × Instr × Nat) := [(128, .getfield 8, 3), (131, .iconst 1, 1), (132, .iaload, 1), (133, .iconst 1, 1), (134, .if_icmp .ne 7, 3), (137, .iconst 1, 1), (138, .goto 4, 3), (141, .iconst 0, 1), (142, .istore_n 2, 1), (143, .iload_n 2, 1), (144, .ifCond .eq 7, 3), (147, .aload_n 0, 1), (148, .invokevirtual 804, 3), (151, .aload_n 0, 1), (152, .iload_n 2, 1), (153, .invokevirtual 807, 3), (156, .aload_n 0, 1), (157, .invokevirtual 401, 3), (160, .iload_n 2, 1), (161, .ifCond .eq 7, 3), (164, .aload_n 0, 1), (165, .invokevirtual 810, 3), (168, .iconst 0, 1), (169, .istore_n 3, 1), (170, .iload_n 3, 1)]
set_option maxRecDepth 20000 in
theorem dn_408_0_3_ok : dn_408_0_3.all (fun q => decide (decode (xm_b n_408) q.1 = .ok (q.2.1, q.2.2))) = true := xa_g_ok (by decide +kernel)
def dn_408_1_0 : List (Nat × Instr × Nat) := [(171, .aload_n 0, 1), (172, .getfield 276, 3), (175, .if_icmp .ge 14, 3), (178, .aload_n 0, 1), (179, .iload_n 3, 1), (180, .invokevirtual 813, 3), (183, .iinc 3 1, 3), (186, .goto (-16), 3), (189, .aload_n 0, 1), (190, .invokevirtual 369, 3), (193, .aload_n 0, 1), (194, .invokevirtual 816, 3), (197, .return_, 1)]
set_option maxRecDepth 20000 in
theorem dn_408_1_0_ok : dn_408_1_0.all (fun q => decide (decode (xm_b n_408) q.1 = .ok (q.2.1, q.2.2))) = true := xa_g_ok (by decide +kernel)
def te_408_0 : Nat → eE := (e_T 19 (e_T 8 (e_T 4 (e_T 0 (e_L 0 (0, ei_load 0 2 1, 0, 0)) (e_T 1 (e_L 1 (0, ei_getf eft elay 12 0 4, 0, 0)) (e_L 4 (0, ei_push (0, 0) 5, 0, 0)))) (e_T 6 (e_T 5 (e_L 5 (0, ei_stk ef_dup2 6, 0, 0)) (e_L 6 (0, ei_ald elay false 7, 0, 0))) (e_T 7 (e_L 7 (0, ei_push (0, 1) 8, 0, 0)) (e_L 8 (0, ei_bin eF_add 9, 0, 0))))) (e_T 11 (e_T 9 (e_L 9 (0, ei_ast elay false 10, 0, 0)) (e_T 10 (e_L 10 (0, ei_load 0 2 11, 0, 0)) (e_L 11 (2, e_nof, 401, 1)))) (e_T 15 (e_T 14 (e_L 14 (0, ei_load 0 2 15, 0, 0)) (e_L 15 (0, ei_getf eft elay 12 0 18, 0, 0))) (e_T 18 (e_L 18 (0, ei_push (0, 1) 19, 0, 0)) (e_L 19 (0, ei_ald elay false 20, 0, 0)))))) (e_T 32 (e_T 24 (e_T 20 (e_L 20 (0, ei_push (0, 1) 21, 0, 0)) (e_T 21 (e_L 21 (0, ei_if2 1 31 24, 0, 0)) (e_L 24 (0, ei_load 0 2 25, 0, 0)))) (e_T 28 (e_T 25 (e_L 25 (2, e_nof, 400, 1)) (e_L 28 (0, ei_goto 32, 0, 0))) (e_T 31 (e_L 31 (0, ei_push (0, (-1)) 32, 0, 0)) (e_L 32 (0, ei_stor 1 0 33, 0, 0))))) (e_T 37 (e_T 33 (e_L 33 (0, ei_load 1 0 34, 0, 0)) (e_T 34 (e_L 34 (0, ei_if1 2 43 37, 0, 0)) (e_L 37 (0, ei_load 0 2 38, 0, 0)))) (e_T 39 (e_T 38 (e_L 38 (0, ei_push (0, 1) 39, 0, 0)) (e_L 39 (0, ei_load 1 0 40, 0, 0))) (e_T 40 (e_L 40 (2, e_nof, 385, 3)) (e_L 43 (0, ei_push (0, 0) 44, 0, 0)))))))
set_option maxRecDepth 20000 in
set_option maxHeartbeats 4000000 in
theorem te_408_0_ok : ∀ pc, e_EOq eft cls elay eI n_408 pc (te_408_0 pc) :=
  (e_Tok2
  (e_Tok2
  (e_Tok2
  (e_Tok2
  (e_Lok (ld_aload_n_0 (x_dk dn_408_0_0_ok 0 rfl)))
  (e_Tok2
  (e_Lok (lk_12_8g ho_408 (x_dk dn_408_0_0_ok 1 rfl)))
  (e_Lok (ps_iconst_0 (x_dk dn_408_0_0_ok 2 rfl)))))
  (e_Tok2
  (e_Tok2
  (e_Lok (e_st (I := eI) (er_dup2 (x_dk dn_408_0_0_ok 3 rfl)) (nx_stk bf_dup2)))
  (e_Lok (sm_iaload (x_dk dn_408_0_0_ok 4 rfl))))
  (e_Tok2
  (e_Lok (ps_iconst_1 (x_dk dn_408_0_0_ok 5 rfl)))
  (e_Lok (sm_iadd (x_dk dn_408_0_0_ok 6 rfl))))))
  (e_Tok2
  (e_Tok2
  (e_Lok (sm_iastore (x_dk dn_408_0_0_ok 7 rfl)))
  (e_Tok2
  (e_Lok (ld_aload_n_0 (x_dk dn_408_0_0_ok 8 rfl)))
  (e_Lok (lk_12_795 ho_408 (x_dk dn_408_0_0_ok 9 rfl)))))
  (e_Tok2
  (e_Tok2
  (e_Lok (ld_aload_n_0 (x_dk dn_408_0_0_ok 10 rfl)))
  (e_Lok (lk_12_8g ho_408 (x_dk dn_408_0_0_ok 11 rfl))))
  (e_Tok2
  (e_Lok (ps_iconst_1 (x_dk dn_408_0_0_ok 12 rfl)))
  (e_Lok (sm_iaload (x_dk dn_408_0_0_ok 13 rfl)))))))
  (e_Tok2
  (e_Tok2
  (e_Tok2
  (e_Lok (ps_iconst_1 (x_dk dn_408_0_0_ok 14 rfl)))
  (e_Tok2
  (e_Lok (e_st (I := eI) (er_icmpne (off := 10) (tg := 31) (x_dk dn_408_0_0_ok 15 rfl) (by decide)) nx_if2))
  (e_Lok (ld_aload_n_0 (x_dk dn_408_0_0_ok 16 rfl)))))
  (e_Tok2
  (e_Tok2
  (e_Lok (lk_12_798 ho_408 (x_dk dn_408_0_0_ok 17 rfl)))
  (e_Lok (e_st (I := eI) (er_goto (off := 4) (tg := 32) (x_dk dn_408_0_0_ok 18 rfl) (by decide)) nx_goto)))
  (e_Tok2
  (e_Lok (ps_iconst_m1 (x_dk dn_408_0_0_ok 19 rfl)))
  (e_Lok (e_st (I := eI) (er_istore_n (i := 1) (x_dk dn_408_0_0_ok 20 rfl) (by decide +kernel)) nx_stor)))))
  (e_Tok2
  (e_Tok2
  (e_Lok (ld_iload_n_1 (x_dk dn_408_0_0_ok 21 rfl)))
  (e_Tok2
  (e_Lok (e_st (I := eI) (er_iflt (off := 9) (tg := 43) (x_dk dn_408_0_0_ok 22 rfl) (by decide)) nx_if1))
  (e_Lok (ld_aload_n_0 (x_dk dn_408_0_0_ok 23 rfl)))))
  (e_Tok2
  (e_Tok2
  (e_Lok (ps_iconst_1 (x_dk dn_408_0_0_ok 24 rfl)))
  (e_Lok (ld_iload_n_1 (x_dk dn_408_0_1_ok 0 rfl))))
  (e_Tok2
  (e_Lok (lk_12_789 ho_408 (x_dk dn_408_0_1_ok 1 rfl)))
  (e_Lok (ps_iconst_0 (x_dk dn_408_0_1_ok 2 rfl))))))))
def te_408_28 : Nat → eE := (e_T 66 (e_T 55 (e_T 46 (e_T 44 (e_L 44 (0, ei_stor 2 0 45, 0, 0)) (e_T 45 (e_L 45 (0, ei_load 2 0 46, 0, 0)) (e_L 46 (0, ei_push (0, 16) 48, 0, 0)))) (e_T 51 (e_T 48 (e_L 48 (0, ei_if2 3 127 51, 0, 0)) (e_L 51 (0, ei_load 0 2 52, 0, 0))) (e_T 52 (e_L 52 (0, ei_getf eft elay 12 0 55, 0, 0)) (e_L 55 (0, ei_load 2 0 56, 0, 0))))) (e_T 60 (e_T 56 (e_L 56 (2, e_nof, 269, 1)) (e_T 59 (e_L 59 (0, ei_ald elay false 60, 0, 0)) (e_L 60 (0, ei_stor 3 0 61, 0, 0)))) (e_T 62 (e_T 61 (e_L 61 (0, ei_load 3 0 62, 0, 0)) (e_L 62 (0, ei_if1 5 121 65, 0, 0))) (e_T 65 (e_L 65 (0, ei_load 3 0 66, 0, 0)) (e_L 66 (0, ei_push (0, 6) 68, 0, 0)))))) (e_T 81 (e_T 72 (e_T 68 (e_L 68 (0, ei_if2 3 121 71, 0, 0)) (e_T 71 (e_L 71 (0, ei_load 0 2 72, 0, 0)) (e_L 72 (0, ei_getf eft elay 12 0 75, 0, 0)))) (e_T 76 (e_T 75 (e_L 75 (0, ei_load 2 0 76, 0, 0)) (e_L 76 (2, e_nof, 269, 1))) (e_T 79 (e_L 79 (0, ei_push (0, 11) 81, 0, 0)) (e_L 81 (0, ei_bin eF_add 82, 0, 0))))) (e_T 84 (e_T 82 (e_L 82 (0, ei_ald elay false 83, 0, 0)) (e_T 83 (e_L 83 (0, ei_load 0 2 84, 0, 0)) (e_L 84 (0, ei_getf eft elay 12 0 87, 0, 0)))) (e_T 88 (e_T 87 (e_L 87 (0, ei_push (0, 0) 88, 0, 0)) (e_L 88 (0, ei_ald elay false 89, 0, 0))) (e_T 89 (e_L 89 (0, ei_if2 4 121 92, 0, 0)) (e_L 92 (0, ei_load 0 2 93, 0, 0)))))))
set_option maxRecDepth 20000 in
set_option maxHeartbeats 4000000 in
theorem te_408_28_ok : ∀ pc, e_EOq eft cls elay eI n_408 pc (te_408_28 pc) :=
  (e_Tok2
  (e_Tok2
  (e_Tok2
  (e_Tok2
  (e_Lok (e_st (I := eI) (er_istore_n (i := 2) (x_dk dn_408_0_1_ok 3 rfl) (by decide +kernel)) nx_stor))
  (e_Tok2
  (e_Lok (ld_iload_n_2 (x_dk dn_408_0_1_ok 4 rfl)))
  (e_Lok (ps_bipush_16 (x_dk dn_408_0_1_ok 5 rfl)))))
  (e_Tok2
  (e_Tok2
  (e_Lok (e_st (I := eI) (er_icmpge (off := 79) (tg := 127) (x_dk dn_408_0_1_ok 6 rfl) (by decide)) nx_if2))
  (e_Lok (ld_aload_n_0 (x_dk dn_408_0_1_ok 7 rfl))))
  (e_Tok2
  (e_Lok (lk_12_8g ho_408 (x_dk dn_408_0_1_ok 8 rfl)))
  (e_Lok (ld_iload_n_2 (x_dk dn_408_0_1_ok 9 rfl))))))
  (e_Tok2
  (e_Tok2
  (e_Lok (lk_12_298 ho_408 (x_dk dn_408_0_1_ok 10 rfl)))
  (e_Tok2
  (e_Lok (sm_iaload (x_dk dn_408_0_1_ok 11 rfl)))
  (e_Lok (e_st (I := eI) (er_istore_n (i := 3) (x_dk dn_408_0_1_ok 12 rfl) (by decide +kernel)) nx_stor))))
  (e_Tok2
  (e_Tok2
  (e_Lok (ld_iload_n_3 (x_dk dn_408_0_1_ok 13 rfl)))
  (e_Lok (e_st (I := eI) (er_ifle (off := 59) (tg := 121) (x_dk dn_408_0_1_ok 14 rfl) (by decide)) nx_if1)))
  (e_Tok2
  (e_Lok (ld_iload_n_3 (x_dk dn_408_0_1_ok 15 rfl)))
  (e_Lok (ps_bipush_6 (x_dk dn_408_0_1_ok 16 rfl)))))))
  (e_Tok2
  (e_Tok2
  (e_Tok2
  (e_Lok (e_st (I := eI) (er_icmpge (off := 53) (tg := 121) (x_dk dn_408_0_1_ok 17 rfl) (by decide)) nx_if2))
  (e_Tok2
  (e_Lok (ld_aload_n_0 (x_dk dn_408_0_1_ok 18 rfl)))
  (e_Lok (lk_12_8g ho_408 (x_dk dn_408_0_1_ok 19 rfl)))))
  (e_Tok2
  (e_Tok2
  (e_Lok (ld_iload_n_2 (x_dk dn_408_0_1_ok 20 rfl)))
  (e_Lok (lk_12_298 ho_408 (x_dk dn_408_0_1_ok 21 rfl))))
  (e_Tok2
  (e_Lok (ps_bipush_11 (x_dk dn_408_0_1_ok 22 rfl)))
  (e_Lok (sm_iadd (x_dk dn_408_0_1_ok 23 rfl))))))
  (e_Tok2
  (e_Tok2
  (e_Lok (sm_iaload (x_dk dn_408_0_1_ok 24 rfl)))
  (e_Tok2
  (e_Lok (ld_aload_n_0 (x_dk dn_408_0_2_ok 0 rfl)))
  (e_Lok (lk_12_8g ho_408 (x_dk dn_408_0_2_ok 1 rfl)))))
  (e_Tok2
  (e_Tok2
  (e_Lok (ps_iconst_0 (x_dk dn_408_0_2_ok 2 rfl)))
  (e_Lok (sm_iaload (x_dk dn_408_0_2_ok 3 rfl))))
  (e_Tok2
  (e_Lok (e_st (I := eI) (er_icmpgt (off := 32) (tg := 121) (x_dk dn_408_0_2_ok 4 rfl) (by decide)) nx_if2))
  (e_Lok (ld_aload_n_0 (x_dk dn_408_0_2_ok 5 rfl))))))))
def te_408_56 : Nat → eE := (e_T 116 (e_T 105 (e_T 97 (e_T 93 (e_L 93 (0, ei_getf eft elay 12 0 96, 0, 0)) (e_T 96 (e_L 96 (0, ei_load 0 2 97, 0, 0)) (e_L 97 (0, ei_getf eft elay 12 0 100, 0, 0)))) (e_T 101 (e_T 100 (e_L 100 (0, ei_load 2 0 101, 0, 0)) (e_L 101 (2, e_nof, 269, 1))) (e_T 104 (e_L 104 (0, ei_push (0, 1) 105, 0, 0)) (e_L 105 (0, ei_bin eF_add 106, 0, 0))))) (e_T 110 (e_T 106 (e_L 106 (0, ei_ald elay false 107, 0, 0)) (e_T 107 (e_L 107 (2, e_nof, 268, 1)) (e_L 110 (0, ei_push (0, 2) 111, 0, 0)))) (e_T 112 (e_T 111 (e_L 111 (0, ei_bin eF_add 112, 0, 0)) (e_L 112 (0, ei_ald elay false 113, 0, 0))) (e_T 113 (e_L 113 (0, ei_if1 3 121 116, 0, 0)) (e_L 116 (0, ei_load 0 2 117, 0, 0)))))) (e_T 131 (e_T 121 (e_T 117 (e_L 117 (0, ei_load 2 0 118, 0, 0)) (e_T 118 (e_L 118 (2, e_nof, 366, 2)) (e_L 121 (0, ei_inc 2 1 124, 0, 0)))) (e_T 127 (e_T 124 (e_L 124 (0, ei_goto 45, 0, 0)) (e_L 127 (0, ei_load 0 2 128, 0, 0))) (e_T 128 (e_L 128 (0, ei_getf eft elay 12 0 131, 0, 0)) (e_L 131 (0, ei_push (0, 1) 132, 0, 0))))) (e_T 134 (e_T 132 (e_L 132 (0, ei_ald elay false 133, 0, 0)) (e_T 133 (e_L 133 (0, ei_push (0, 1) 134, 0, 0)) (e_L 134 (0, ei_if2 1 141 137, 0, 0)))) (e_T 138 (e_T 137 (e_L 137 (0, ei_push (0, 1) 138, 0, 0)) (e_L 138 (0, ei_goto 142, 0, 0))) (e_T 141 (e_L 141 (0, ei_push (0, 0) 142, 0, 0)) (e_L 142 (0, ei_stor 2 0 143, 0, 0)))))))
set_option maxRecDepth 20000 in
set_option maxHeartbeats 4000000 in
theorem te_408_56_ok : ∀ pc, e_EOq eft cls elay eI n_408 pc (te_408_56 pc) :=
  (e_Tok2
  (e_Tok2
  (e_Tok2
  (e_Tok2
  (e_Lok (lk_12_8g ho_408 (x_dk dn_408_0_2_ok 6 rfl)))
  (e_Tok2
  (e_Lok (ld_aload_n_0 (x_dk dn_408_0_2_ok 7 rfl)))
  (e_Lok (lk_12_8g ho_408 (x_dk dn_408_0_2_ok 8 rfl)))))
  (e_Tok2
  (e_Tok2
  (e_Lok (ld_iload_n_2 (x_dk dn_408_0_2_ok 9 rfl)))
  (e_Lok (lk_12_298 ho_408 (x_dk dn_408_0_2_ok 10 rfl))))
  (e_Tok2
  (e_Lok (ps_iconst_1 (x_dk dn_408_0_2_ok 11 rfl)))
  (e_Lok (sm_iadd (x_dk dn_408_0_2_ok 12 rfl))))))
  (e_Tok2
  (e_Tok2
  (e_Lok (sm_iaload (x_dk dn_408_0_2_ok 13 rfl)))
  (e_Tok2
  (e_Lok (lk_12_294 ho_408 (x_dk dn_408_0_2_ok 14 rfl)))
  (e_Lok (ps_iconst_2 (x_dk dn_408_0_2_ok 15 rfl)))))
  (e_Tok2
  (e_Tok2
  (e_Lok (sm_iadd (x_dk dn_408_0_2_ok 16 rfl)))
  (e_Lok (sm_iaload (x_dk dn_408_0_2_ok 17 rfl))))
  (e_Tok2
  (e_Lok (e_st (I := eI) (er_ifge (off := 8) (tg := 121) (x_dk dn_408_0_2_ok 18 rfl) (by decide)) nx_if1))
  (e_Lok (ld_aload_n_0 (x_dk dn_408_0_2_ok 19 rfl)))))))
  (e_Tok2
  (e_Tok2
  (e_Tok2
  (e_Lok (ld_iload_n_2 (x_dk dn_408_0_2_ok 20 rfl)))
  (e_Tok2
  (e_Lok (lk_12_801 ho_408 (x_dk dn_408_0_2_ok 21 rfl)))
  (e_Lok (e_st (I := eI) (er_iinc (i := 2) (n := 1) (x_dk dn_408_0_2_ok 22 rfl) (by decide +kernel) (by decide)) nx_inc))))
  (e_Tok2
  (e_Tok2
  (e_Lok (e_st (I := eI) (er_goto (off := (-79)) (tg := 45) (x_dk dn_408_0_2_ok 23 rfl) (by decide)) nx_goto))
  (e_Lok (ld_aload_n_0 (x_dk dn_408_0_2_ok 24 rfl))))
  (e_Tok2
  (e_Lok (lk_12_8g ho_408 (x_dk dn_408_0_3_ok 0 rfl)))
  (e_Lok (ps_iconst_1 (x_dk dn_408_0_3_ok 1 rfl))))))
  (e_Tok2
  (e_Tok2
  (e_Lok (sm_iaload (x_dk dn_408_0_3_ok 2 rfl)))
  (e_Tok2
  (e_Lok (ps_iconst_1 (x_dk dn_408_0_3_ok 3 rfl)))
  (e_Lok (e_st (I := eI) (er_icmpne (off := 7) (tg := 141) (x_dk dn_408_0_3_ok 4 rfl) (by decide)) nx_if2))))
  (e_Tok2
  (e_Tok2
  (e_Lok (ps_iconst_1 (x_dk dn_408_0_3_ok 5 rfl)))
  (e_Lok (e_st (I := eI) (er_goto (off := 4) (tg := 142) (x_dk dn_408_0_3_ok 6 rfl) (by decide)) nx_goto)))
  (e_Tok2
  (e_Lok (ps_iconst_0 (x_dk dn_408_0_3_ok 7 rfl)))
  (e_Lok (e_st (I := eI) (er_istore_n (i := 2) (x_dk dn_408_0_3_ok 8 rfl) (by decide +kernel)) nx_stor)))))))
def te_408_84 : Nat → eE := (e_T 168 (e_T 153 (e_T 147 (e_T 143 (e_L 143 (0, ei_load 2 0 144, 0, 0)) (e_T 144 (e_L 144 (0, ei_if1 0 151 147, 0, 0)) (e_L 147 (0, ei_load 0 2 148, 0, 0)))) (e_T 151 (e_T 148 (e_L 148 (2, e_nof, 402, 1)) (e_L 151 (0, ei_load 0 2 152, 0, 0))) (e_T 152 (e_L 152 (0, ei_load 2 0 153, 0, 0)) (e_L 153 (2, e_nof, 403, 2))))) (e_T 160 (e_T 156 (e_L 156 (0, ei_load 0 2 157, 0, 0)) (e_T 157 (e_L 157 (2, e_nof, 302, 1)) (e_L 160 (0, ei_load 2 0 161, 0, 0)))) (e_T 164 (e_T 161 (e_L 161 (0, ei_if1 0 168 164, 0, 0)) (e_L 164 (0, ei_load 0 2 165, 0, 0))) (e_T 165 (e_L 165 (2, e_nof, 406, 1)) (e_L 168 (0, ei_push (0, 0) 169, 0, 0)))))) (e_T 179 (e_T 171 (e_T 169 (e_L 169 (0, ei_stor 3 0 170, 0, 0)) (e_T 170 (e_L 170 (0, ei_load 3 0 171, 0, 0)) (e_L 171 (0, ei_load 0 2 172, 0, 0)))) (e_T 175 (e_T 172 (e_L 172 (0, ei_getf eft elay 12 30 175, 0, 0)) (e_L 175 (0, ei_if2 3 189 178, 0, 0))) (e_T 178 (e_L 178 (0, ei_load 0 2 179, 0, 0)) (e_L 179 (0, ei_load 3 0 180, 0, 0))))) (e_T 189 (e_T 183 (e_T 180 (e_L 180 (2, e_nof, 398, 2)) (e_L 183 (0, ei_inc 3 1 186, 0, 0))) (e_T 186 (e_L 186 (0, ei_goto 170, 0, 0)) (e_L 189 (0, ei_load 0 2 190, 0, 0)))) (e_T 193 (e_T 190 (e_L 190 (2, e_nof, 303, 1)) (e_L 193 (0, ei_load 0 2 194, 0, 0))) (e_T 194 (e_L 194 (2, e_nof, 407, 1)) (e_L 197 (1, e_nof, 0, 0)))))))
set_option maxRecDepth 20000 in
set_option maxHeartbeats 4000000 in
theorem te_408_84_ok : ∀ pc, e_EOq eft cls elay eI n_408 pc (te_408_84 pc) :=
  (e_Tok2
  (e_Tok2
  (e_Tok2
  (e_Tok2
  (e_Lok (ld_iload_n_2 (x_dk dn_408_0_3_ok 9 rfl)))
  (e_Tok2
  (e_Lok (e_st (I := eI) (er_ifeq (off := 7) (tg := 151) (x_dk dn_408_0_3_ok 10 rfl) (by decide)) nx_if1))
  (e_Lok (ld_aload_n_0 (x_dk dn_408_0_3_ok 11 rfl)))))
  (e_Tok2
  (e_Tok2
  (e_Lok (lk_12_804 ho_408 (x_dk dn_408_0_3_ok 12 rfl)))
  (e_Lok (ld_aload_n_0 (x_dk dn_408_0_3_ok 13 rfl))))
  (e_Tok2
  (e_Lok (ld_iload_n_2 (x_dk dn_408_0_3_ok 14 rfl)))
  (e_Lok (lk_12_807 ho_408 (x_dk dn_408_0_3_ok 15 rfl))))))
  (e_Tok2
  (e_Tok2
  (e_Lok (ld_aload_n_0 (x_dk dn_408_0_3_ok 16 rfl)))
  (e_Tok2
  (e_Lok (lk_12_401 ho_408 (x_dk dn_408_0_3_ok 17 rfl)))
  (e_Lok (ld_iload_n_2 (x_dk dn_408_0_3_ok 18 rfl)))))
  (e_Tok2
  (e_Tok2
  (e_Lok (e_st (I := eI) (er_ifeq (off := 7) (tg := 168) (x_dk dn_408_0_3_ok 19 rfl) (by decide)) nx_if1))
  (e_Lok (ld_aload_n_0 (x_dk dn_408_0_3_ok 20 rfl))))
  (e_Tok2
  (e_Lok (lk_12_810 ho_408 (x_dk dn_408_0_3_ok 21 rfl)))
  (e_Lok (ps_iconst_0 (x_dk dn_408_0_3_ok 22 rfl)))))))
  (e_Tok2
  (e_Tok2
  (e_Tok2
  (e_Lok (e_st (I := eI) (er_istore_n (i := 3) (x_dk dn_408_0_3_ok 23 rfl) (by decide +kernel)) nx_stor))
  (e_Tok2
  (e_Lok (ld_iload_n_3 (x_dk dn_408_0_3_ok 24 rfl)))
  (e_Lok (ld_aload_n_0 (x_dk dn_408_1_0_ok 0 rfl)))))
  (e_Tok2
  (e_Tok2
  (e_Lok (lk_12_276g ho_408 (x_dk dn_408_1_0_ok 1 rfl)))
  (e_Lok (e_st (I := eI) (er_icmpge (off := 14) (tg := 189) (x_dk dn_408_1_0_ok 2 rfl) (by decide)) nx_if2)))
  (e_Tok2
  (e_Lok (ld_aload_n_0 (x_dk dn_408_1_0_ok 3 rfl)))
  (e_Lok (ld_iload_n_3 (x_dk dn_408_1_0_ok 4 rfl))))))
  (e_Tok2
  (e_Tok2
  (e_Tok2
  (e_Lok (lk_12_813 ho_408 (x_dk dn_408_1_0_ok 5 rfl)))
  (e_Lok (e_st (I := eI) (er_iinc (i := 3) (n := 1) (x_dk dn_408_1_0_ok 6 rfl) (by decide +kernel) (by decide)) nx_inc)))
  (e_Tok2
  (e_Lok (e_st (I := eI) (er_goto (off := (-16)) (tg := 170) (x_dk dn_408_1_0_ok 7 rfl) (by decide)) nx_goto))
  (e_Lok (ld_aload_n_0 (x_dk dn_408_1_0_ok 8 rfl)))))
  (e_Tok2
  (e_Tok2
  (e_Lok (lk_12_369 ho_408 (x_dk dn_408_1_0_ok 9 rfl)))
  (e_Lok (ld_aload_n_0 (x_dk dn_408_1_0_ok 10 rfl))))
  (e_Tok2
  (e_Lok (lk_12_816 ho_408 (x_dk dn_408_1_0_ok 11 rfl)))
  (e_Lok (e_rt (I := eI) (k := 0) ⟨(x_dk dn_408_1_0_ok 12 rfl), rfl⟩)))))))
def te_408 : Nat → eE := (e_T 92 (e_T 43 te_408_0 te_408_28) (e_T 142 te_408_56 te_408_84))
theorem te_408_ok : ∀ pc, e_EOq eft cls elay eI n_408 pc (te_408 pc) := (e_Tok2 ((e_Tok2 (te_408_0_ok) (te_408_28_ok))) ((e_Tok2 (te_408_56_ok) (te_408_84_ok))))
theorem ho_409 : (xm_y n_409).cls = "RobotCellHouseModel" := rfl
def dn_409_0_0 : List (Nat × Instr × Nat) := [(0, .lconst 1, 1), (1, .lstore_n 3, 1), (2, .iconst 0, 1), (3, .istore 5, 2), (5, .iload 5, 2), (7, .aload_n 0, 1), (8, .getfield 43, 3), (11, .iload_n 1, 1), (12, .iaload, 1), (13, .if_icmp .ge 115, 3), (16, .aload_n 0, 1), (17, .getfield 8, 3), (20, .iload_n 1, 1), (21, .invokestatic 294, 3), (24, .bipush 16, 2), (26, .iadd, 1), (27, .iload 5, 2), (29, .iadd, 1), (30, .iaload, 1), (31, .istore 6, 2), (33, .iload 6, 2), (35, .aload_n 0, 1), (36, .getfield 49, 3), (39, .bipush 6, 2), (41, .iload_n 1, 1)]
set_option maxRecDepth 20000 in
theorem dn_409_0_0_ok : dn_409_0_0.all (fun q => decide (decode (xm_b n_409) q.1 = .ok (q.2.1, q.2.2))) = true := xa_g_ok (by decide +kernel)
def dn_409_0_1 : List (Nat × Instr × Nat) := [(42, .imul, 1), (43, .iload 5, 2), (45, .iadd, 1), (46, .iaload, 1), (47, .isub, 1), (48, .iload_n 2, 1), (49, .idiv, 1), (50, .istore 7, 2), (52, .aload_n 0, 1), (53, .getfield 52, 3), (56, .bipush 6, 2), (58, .iload_n 1, 1), (59, .imul, 1), (60, .iload 5, 2), (62, .iadd, 1), (63, .iaload, 1), (64, .iload 6, 2), (66, .isub, 1), (67, .iload_n 2, 1), (68, .idiv, 1), (69, .istore 8, 2), (71, .aload_n 0, 1), (72, .getfield 231, 3), (75, .iload 5, 2), (77, .iload 6, 2)]
set_option maxRecDepth 20000 in
theorem dn_409_0_1_ok : dn_409_0_1.all (fun q => decide (decode (xm_b n_409) q.1 = .ok (q.2.1, q.2.2))) = true := xa_g_ok (by decide +kernel)
def dn_409_0_2 : List (Nat × Instr × Nat) := [(79, .iload 7, 2), (81, .iload_n 2, 1), (82, .imul, 1), (83, .isub, 1), (84, .iastore, 1), (85, .aload_n 0, 1), (86, .getfield 228, 3), (89, .iload 5, 2), (91, .iload 7, 2), (93, .iload 8, 2), (95, .iadd, 1), (96, .iconst 1, 1), (97, .iadd, 1), (98, .iastore, 1), (99, .lload_n 3, 1), (100, .ldc2_w 365, 3), (103, .lcmp, 1), (104, .ifCond .le 7, 3), (107, .lload_n 3, 1), (108, .goto 13, 3), (111, .lload_n 3, 1), (112, .aload_n 0, 1), (113, .getfield 228, 3), (116, .iload 5, 2), (118, .iaload, 1)]
set_option maxRecDepth 20000 in
theorem dn_409_0_2_ok : dn_409_0_2.all (fun q => decide (decode (xm_b n_409) q.1 = .ok (q.2.1, q.2.2))) = true := xa_g_ok (by decide +kernel)
def dn_409_0_3 : List (Nat × Instr × Nat) := [(119, .i2l, 1), (120, .lmul, 1), (121, .lstore_n 3, 1), (122, .iinc 5 1, 3), (125, .goto (-120), 3), (128, .lload_n 3, 1), (129, .ldc2_w 365, 3), (132, .lcmp, 1), (133, .ifCond .le 9, 3), (136, .sipush 1001, 3), (139, .goto 5, 3), (142, .lload_n 3, 1), (143, .l2i, 1), (144, .ireturn, 1)]
set_option maxRecDepth 20000 in
theorem dn_409_0_3_ok : dn_409_0_3.all (fun q => decide (decode (xm_b n_409) q.1 = .ok (q.2.1, q.2.2))) = true := xa_g_ok (by decide +kernel)
def te_409_0 : Nat → eE := (e_T 16 (e_T 5 (e_T 1 (e_T 0 (e_L 0 (0, ei_push (4, 1) 1, 0, 0)) (e_L 1 (0, ei_stor 3 1 2, 0, 0))) (e_T 2 (e_L 2 (0, ei_push (0, 0) 3, 0, 0)) (e_T 3 (e_L 3 (0, ei_stor 5 0 5, 0, 0)) (e_L 5 (0, ei_load 5 0 7, 0, 0))))) (e_T 11 (e_T 7 (e_L 7 (0, ei_load 0 2 8, 0, 0)) (e_T 8 (e_L 8 (0, ei_getf eft elay 12 15 11, 0, 0)) (e_L 11 (0, ei_load 1 0 12, 0, 0)))) (e_T 12 (e_L 12 (0, ei_ald elay false 13, 0, 0)) (e_T 13 (e_L 13 (0, ei_if2 3 128 16, 0, 0)) (e_L 16 (0, ei_load 0 2 17, 0, 0)))))) (e_T 26 (e_T 20 (e_T 17 (e_L 17 (0, ei_getf eft elay 12 0 20, 0, 0)) (e_L 20 (0, ei_load 1 0 21, 0, 0))) (e_T 21 (e_L 21 (2, e_nof, 268, 1)) (e_T 24 (e_L 24 (0, ei_push (0, 16) 26, 0, 0)) (e_L 26 (0, ei_bin eF_add 27, 0, 0))))) (e_T 30 (e_T 27 (e_L 27 (0, ei_load 5 0 29, 0, 0)) (e_T 29 (e_L 29 (0, ei_bin eF_add 30, 0, 0)) (e_L 30 (0, ei_ald elay false 31, 0, 0)))) (e_T 31 (e_L 31 (0, ei_stor 6 0 33, 0, 0)) (e_T 33 (e_L 33 (0, ei_load 6 0 35, 0, 0)) (e_L 35 (0, ei_load 0 2 36, 0, 0)))))))
set_option maxRecDepth 20000 in
set_option maxHeartbeats 4000000 in
theorem te_409_0_ok : ∀ pc, e_EOq eft cls elay eI n_409 pc (te_409_0 pc) :=
  (e_Tok2
  (e_Tok2
  (e_Tok2
  (e_Tok2
  (e_Lok (ps_lconst_1 (x_dk dn_409_0_0_ok 0 rfl)))
  (e_Lok (e_st (I := eI) (er_lstore_n (i := 3) (x_dk dn_409_0_0_ok 1 rfl) (by decide +kernel)) nx_stor)))
  (e_Tok2
  (e_Lok (ps_iconst_0 (x_dk dn_409_0_0_ok 2 rfl)))
  (e_Tok2
  (e_Lok (e_st (I := eI) (er_istore (i := 5) (x_dk dn_409_0_0_ok 3 rfl) (by decide +kernel)) nx_stor))
  (e_Lok (ld_iload_5 (x_dk dn_409_0_0_ok 4 rfl))))))
  (e_Tok2
  (e_Tok2
  (e_Lok (ld_aload_n_0 (x_dk dn_409_0_0_ok 5 rfl)))
  (e_Tok2
  (e_Lok (lk_12_43g ho_409 (x_dk dn_409_0_0_ok 6 rfl)))
  (e_Lok (ld_iload_n_1 (x_dk dn_409_0_0_ok 7 rfl)))))
  (e_Tok2
  (e_Lok (sm_iaload (x_dk dn_409_0_0_ok 8 rfl)))
  (e_Tok2
  (e_Lok (e_st (I := eI) (er_icmpge (off := 115) (tg := 128) (x_dk dn_409_0_0_ok 9 rfl) (by decide)) nx_if2))
  (e_Lok (ld_aload_n_0 (x_dk dn_409_0_0_ok 10 rfl)))))))
  (e_Tok2
  (e_Tok2
  (e_Tok2
  (e_Lok (lk_12_8g ho_409 (x_dk dn_409_0_0_ok 11 rfl)))
  (e_Lok (ld_iload_n_1 (x_dk dn_409_0_0_ok 12 rfl))))
  (e_Tok2
  (e_Lok (lk_12_294 ho_409 (x_dk dn_409_0_0_ok 13 rfl)))
  (e_Tok2
  (e_Lok (ps_bipush_16 (x_dk dn_409_0_0_ok 14 rfl)))
  (e_Lok (sm_iadd (x_dk dn_409_0_0_ok 15 rfl))))))
  (e_Tok2
  (e_Tok2
  (e_Lok (ld_iload_5 (x_dk dn_409_0_0_ok 16 rfl)))
  (e_Tok2
  (e_Lok (sm_iadd (x_dk dn_409_0_0_ok 17 rfl)))
  (e_Lok (sm_iaload (x_dk dn_409_0_0_ok 18 rfl)))))
  (e_Tok2
  (e_Lok (e_st (I := eI) (er_istore (i := 6) (x_dk dn_409_0_0_ok 19 rfl) (by decide +kernel)) nx_stor))
  (e_Tok2
  (e_Lok (ld_iload_6 (x_dk dn_409_0_0_ok 20 rfl)))
  (e_Lok (ld_aload_n_0 (x_dk dn_409_0_0_ok 21 rfl))))))))
def te_409_22 : Nat → eE := (e_T 50 (e_T 43 (e_T 39 (e_T 36 (e_L 36 (0, ei_getf eft elay 12 17 39, 0, 0)) (e_L 39 (0, ei_push (0, 6) 41, 0, 0))) (e_T 41 (e_L 41 (0, ei_load 1 0 42, 0, 0)) (e_T 42 (e_L 42 (0, ei_bin eF_mul 43, 0, 0)) (e_L 43 (0, ei_load 5 0 45, 0, 0))))) (e_T 47 (e_T 45 (e_L 45 (0, ei_bin eF_add 46, 0, 0)) (e_T 46 (e_L 46 (0, ei_ald elay false 47, 0, 0)) (e_L 47 (0, ei_bin eF_sub 48, 0, 0)))) (e_T 48 (e_L 48 (0, ei_load 2 0 49, 0, 0)) (e_T 49 (e_L 49 (0, ei_bin eF_div 50, 0, 0)) (e_L 50 (0, ei_stor 7 0 52, 0, 0)))))) (e_T 59 (e_T 53 (e_T 52 (e_L 52 (0, ei_load 0 2 53, 0, 0)) (e_L 53 (0, ei_getf eft elay 12 18 56, 0, 0))) (e_T 56 (e_L 56 (0, ei_push (0, 6) 58, 0, 0)) (e_T 58 (e_L 58 (0, ei_load 1 0 59, 0, 0)) (e_L 59 (0, ei_bin eF_mul 60, 0, 0))))) (e_T 63 (e_T 60 (e_L 60 (0, ei_load 5 0 62, 0, 0)) (e_T 62 (e_L 62 (0, ei_bin eF_add 63, 0, 0)) (e_L 63 (0, ei_ald elay false 64, 0, 0)))) (e_T 64 (e_L 64 (0, ei_load 6 0 66, 0, 0)) (e_T 66 (e_L 66 (0, ei_bin eF_sub 67, 0, 0)) (e_L 67 (0, ei_load 2 0 68, 0, 0)))))))
set_option maxRecDepth 20000 in
set_option maxHeartbeats 4000000 in
theorem te_409_22_ok : ∀ pc, e_EOq eft cls elay eI n_409 pc (te_409_22 pc) :=
  (e_Tok2
  (e_Tok2
  (e_Tok2
  (e_Tok2
  (e_Lok (lk_12_49g ho_409 (x_dk dn_409_0_0_ok 22 rfl)))
  (e_Lok (ps_bipush_6 (x_dk dn_409_0_0_ok 23 rfl))))
  (e_Tok2
  (e_Lok (ld_iload_n_1 (x_dk dn_409_0_0_ok 24 rfl)))
  (e_Tok2
  (e_Lok (sm_imul (x_dk dn_409_0_1_ok 0 rfl)))
  (e_Lok (ld_iload_5 (x_dk dn_409_0_1_ok 1 rfl))))))
  (e_Tok2
  (e_Tok2
  (e_Lok (sm_iadd (x_dk dn_409_0_1_ok 2 rfl)))
  (e_Tok2
  (e_Lok (sm_iaload (x_dk dn_409_0_1_ok 3 rfl)))
  (e_Lok (sm_isub (x_dk dn_409_0_1_ok 4 rfl)))))
  (e_Tok2
  (e_Lok (ld_iload_n_2 (x_dk dn_409_0_1_ok 5 rfl)))
  (e_Tok2
  (e_Lok (e_st (I := eI) (er_idiv (x_dk dn_409_0_1_ok 6 rfl)) nx_bin))
  (e_Lok (e_st (I := eI) (er_istore (i := 7) (x_dk dn_409_0_1_ok 7 rfl) (by decide +kernel)) nx_stor))))))
  (e_Tok2
  (e_Tok2
  (e_Tok2
  (e_Lok (ld_aload_n_0 (x_dk dn_409_0_1_ok 8 rfl)))
  (e_Lok (lk_12_52g ho_409 (x_dk dn_409_0_1_ok 9 rfl))))
  (e_Tok2
  (e_Lok (ps_bipush_6 (x_dk dn_409_0_1_ok 10 rfl)))
  (e_Tok2
  (e_Lok (ld_iload_n_1 (x_dk dn_409_0_1_ok 11 rfl)))
  (e_Lok (sm_imul (x_dk dn_409_0_1_ok 12 rfl))))))
  (e_Tok2
  (e_Tok2
  (e_Lok (ld_iload_5 (x_dk dn_409_0_1_ok 13 rfl)))
  (e_Tok2
  (e_Lok (sm_iadd (x_dk dn_409_0_1_ok 14 rfl)))
  (e_Lok (sm_iaload (x_dk dn_409_0_1_ok 15 rfl)))))
  (e_Tok2
  (e_Lok (ld_iload_6 (x_dk dn_409_0_1_ok 16 rfl)))
  (e_Tok2
  (e_Lok (sm_isub (x_dk dn_409_0_1_ok 17 rfl)))
  (e_Lok (ld_iload_n_2 (x_dk dn_409_0_1_ok 18 rfl))))))))
def te_409_44 : Nat → eE := (e_T 84 (e_T 75 (e_T 69 (e_T 68 (e_L 68 (0, ei_bin eF_div 69, 0, 0)) (e_L 69 (0, ei_stor 8 0 71, 0, 0))) (e_T 71 (e_L 71 (0, ei_load 0 2 72, 0, 0)) (e_T 72 (e_L 72 (0, ei_getf eft elay 12 105 75, 0, 0)) (e_L 75 (0, ei_load 5 0 77, 0, 0))))) (e_T 81 (e_T 77 (e_L 77 (0, ei_load 6 0 79, 0, 0)) (e_T 79 (e_L 79 (0, ei_load 7 0 81, 0, 0)) (e_L 81 (0, ei_load 2 0 82, 0, 0)))) (e_T 82 (e_L 82 (0, ei_bin eF_mul 83, 0, 0)) (e_T 83 (e_L 83 (0, ei_bin eF_sub 84, 0, 0)) (e_L 84 (0, ei_ast elay false 85, 0, 0)))))) (e_T 93 (e_T 86 (e_T 85 (e_L 85 (0, ei_load 0 2 86, 0, 0)) (e_L 86 (0, ei_getf eft elay 12 104 89, 0, 0))) (e_T 89 (e_L 89 (0, ei_load 5 0 91, 0, 0)) (e_T 91 (e_L 91 (0, ei_load 7 0 93, 0, 0)) (e_L 93 (0, ei_load 8 0 95, 0, 0))))) (e_T 97 (e_T 95 (e_L 95 (0, ei_bin eF_add 96, 0, 0)) (e_T 96 (e_L 96 (0, ei_push (0, 1) 97, 0, 0)) (e_L 97 (0, ei_bin eF_add 98, 0, 0)))) (e_T 98 (e_L 98 (0, ei_ast elay false 99, 0, 0)) (e_T 99 (e_L 99 (0, ei_load 3 1 100, 0, 0)) (e_L 100 (0, ei_push (4, 1000) 103, 0, 0)))))))
set_option maxRecDepth 20000 in
set_option maxHeartbeats 4000000 in
theorem te_409_44_ok : ∀ pc, e_EOq eft cls elay eI n_409 pc (te_409_44 pc) :=
  (e_Tok2
  (e_Tok2
  (e_Tok2
  (e_Tok2
  (e_Lok (e_st (I := eI) (er_idiv (x_dk dn_409_0_1_ok 19 rfl)) nx_bin))
  (e_Lok (e_st (I := eI) (er_istore (i := 8) (x_dk dn_409_0_1_ok 20 rfl) (by decide +kernel)) nx_stor)))
  (e_Tok2
  (e_Lok (ld_aload_n_0 (x_dk dn_409_0_1_ok 21 rfl)))
  (e_Tok2
  (e_Lok (lk_12_231g ho_409 (x_dk dn_409_0_1_ok 22 rfl)))
  (e_Lok (ld_iload_5 (x_dk dn_409_0_1_ok 23 rfl))))))
  (e_Tok2
  (e_Tok2
  (e_Lok (ld_iload_6 (x_dk dn_409_0_1_ok 24 rfl)))
  (e_Tok2
  (e_Lok (ld_iload_7 (x_dk dn_409_0_2_ok 0 rfl)))
  (e_Lok (ld_iload_n_2 (x_dk dn_409_0_2_ok 1 rfl)))))
  (e_Tok2
  (e_Lok (sm_imul (x_dk dn_409_0_2_ok 2 rfl)))
  (e_Tok2
  (e_Lok (sm_isub (x_dk dn_409_0_2_ok 3 rfl)))
  (e_Lok (sm_iastore (x_dk dn_409_0_2_ok 4 rfl)))))))
  (e_Tok2
  (e_Tok2
  (e_Tok2
  (e_Lok (ld_aload_n_0 (x_dk dn_409_0_2_ok 5 rfl)))
  (e_Lok (lk_12_228g ho_409 (x_dk dn_409_0_2_ok 6 rfl))))
  (e_Tok2
  (e_Lok (ld_iload_5 (x_dk dn_409_0_2_ok 7 rfl)))
  (e_Tok2
  (e_Lok (ld_iload_7 (x_dk dn_409_0_2_ok 8 rfl)))
  (e_Lok (ld_iload_8 (x_dk dn_409_0_2_ok 9 rfl))))))
  (e_Tok2
  (e_Tok2
  (e_Lok (sm_iadd (x_dk dn_409_0_2_ok 10 rfl)))
  (e_Tok2
  (e_Lok (ps_iconst_1 (x_dk dn_409_0_2_ok 11 rfl)))
  (e_Lok (sm_iadd (x_dk dn_409_0_2_ok 12 rfl)))))
  (e_Tok2
  (e_Lok (sm_iastore (x_dk dn_409_0_2_ok 13 rfl)))
  (e_Tok2
  (e_Lok (ld_lload_n_3 (x_dk dn_409_0_2_ok 14 rfl)))
  (e_Lok (e_st (I := eI) (er_ldc2 (ix := 365) (z := 1000) (v := 1000) (x_dk dn_409_0_2_ok 15 rfl) (in_t11 (List.mem_of_getElem? (i := 115) rfl) rfl) (by decide)) (nx_push (Or.inl rfl)))))))))
def te_409_66 : Nat → eE := (e_T 120 (e_T 111 (e_T 104 (e_T 103 (e_L 103 (0, ei_binL eG_cmp 104, 0, 0)) (e_L 104 (0, ei_if1 5 111 107, 0, 0))) (e_T 107 (e_L 107 (0, ei_load 3 1 108, 0, 0)) (e_T 108 (e_L 108 (0, ei_goto 121, 0, 0)) (e_L 111 (0, ei_load 3 1 112, 0, 0))))) (e_T 116 (e_T 112 (e_L 112 (0, ei_load 0 2 113, 0, 0)) (e_T 113 (e_L 113 (0, ei_getf eft elay 12 104 116, 0, 0)) (e_L 116 (0, ei_load 5 0 118, 0, 0)))) (e_T 118 (e_L 118 (0, ei_ald elay false 119, 0, 0)) (e_T 119 (e_L 119 (0, ei_un (fun x => (4, x)) 120, 0, 0)) (e_L 120 (0, ei_binL eG_mul 121, 0, 0)))))) (e_T 132 (e_T 125 (e_T 121 (e_L 121 (0, ei_stor 3 1 122, 0, 0)) (e_T 122 (e_L 122 (0, ei_inc 5 1 125, 0, 0)) (e_L 125 (0, ei_goto 5, 0, 0)))) (e_T 128 (e_L 128 (0, ei_load 3 1 129, 0, 0)) (e_T 129 (e_L 129 (0, ei_push (4, 1000) 132, 0, 0)) (e_L 132 (0, ei_binL eG_cmp 133, 0, 0))))) (e_T 139 (e_T 133 (e_L 133 (0, ei_if1 5 142 136, 0, 0)) (e_T 136 (e_L 136 (0, ei_push (0, 1001) 139, 0, 0)) (e_L 139 (0, ei_goto 144, 0, 0)))) (e_T 142 (e_L 142 (0, ei_load 3 1 143, 0, 0)) (e_T 143 (e_L 143 (0, ei_unL (fun x => (0, e32 x)) 144, 0, 0)) (e_L 144 (1, e_nof, 1, 0)))))))
set_option maxRecDepth 20000 in
set_option maxHeartbeats 4000000 in
theorem te_409_66_ok : ∀ pc, e_EOq eft cls elay eI n_409 pc (te_409_66 pc) :=
  (e_Tok2
  (e_Tok2
  (e_Tok2
  (e_Tok2
  (e_Lok (e_st (I := eI) (er_lcmp (x_dk dn_409_0_2_ok 16 rfl)) (nx_binL bG_lcmp)))
  (e_Lok (e_st (I := eI) (er_ifle (off := 7) (tg := 111) (x_dk dn_409_0_2_ok 17 rfl) (by decide)) nx_if1)))
  (e_Tok2
  (e_Lok (ld_lload_n_3 (x_dk dn_409_0_2_ok 18 rfl)))
  (e_Tok2
  (e_Lok (e_st (I := eI) (er_goto (off := 13) (tg := 121) (x_dk dn_409_0_2_ok 19 rfl) (by decide)) nx_goto))
  (e_Lok (ld_lload_n_3 (x_dk dn_409_0_2_ok 20 rfl))))))
  (e_Tok2
  (e_Tok2
  (e_Lok (ld_aload_n_0 (x_dk dn_409_0_2_ok 21 rfl)))
  (e_Tok2
  (e_Lok (lk_12_228g ho_409 (x_dk dn_409_0_2_ok 22 rfl)))
  (e_Lok (ld_iload_5 (x_dk dn_409_0_2_ok 23 rfl)))))
  (e_Tok2
  (e_Lok (sm_iaload (x_dk dn_409_0_2_ok 24 rfl)))
  (e_Tok2
  (e_Lok (e_st (I := eI) (er_i2l (x_dk dn_409_0_3_ok 0 rfl)) (nx_un (fun _ => rfl))))
  (e_Lok (e_st (I := eI) (er_lmul (x_dk dn_409_0_3_ok 1 rfl)) (nx_binL bG_lmul)))))))
  (e_Tok2
  (e_Tok2
  (e_Tok2
  (e_Lok (e_st (I := eI) (er_lstore_n (i := 3) (x_dk dn_409_0_3_ok 2 rfl) (by decide +kernel)) nx_stor))
  (e_Tok2
  (e_Lok (e_st (I := eI) (er_iinc (i := 5) (n := 1) (x_dk dn_409_0_3_ok 3 rfl) (by decide +kernel) (by decide)) nx_inc))
  (e_Lok (e_st (I := eI) (er_goto (off := (-120)) (tg := 5) (x_dk dn_409_0_3_ok 4 rfl) (by decide)) nx_goto))))
  (e_Tok2
  (e_Lok (ld_lload_n_3 (x_dk dn_409_0_3_ok 5 rfl)))
  (e_Tok2
  (e_Lok (e_st (I := eI) (er_ldc2 (ix := 365) (z := 1000) (v := 1000) (x_dk dn_409_0_3_ok 6 rfl) (in_t11 (List.mem_of_getElem? (i := 115) rfl) rfl) (by decide)) (nx_push (Or.inl rfl))))
  (e_Lok (e_st (I := eI) (er_lcmp (x_dk dn_409_0_3_ok 7 rfl)) (nx_binL bG_lcmp))))))
  (e_Tok2
  (e_Tok2
  (e_Lok (e_st (I := eI) (er_ifle (off := 9) (tg := 142) (x_dk dn_409_0_3_ok 8 rfl) (by decide)) nx_if1))
  (e_Tok2
  (e_Lok (ps_sipush_1001 (x_dk dn_409_0_3_ok 9 rfl)))
  (e_Lok (e_st (I := eI) (er_goto (off := 5) (tg := 144) (x_dk dn_409_0_3_ok 10 rfl) (by decide)) nx_goto))))
  (e_Tok2
  (e_Lok (ld_lload_n_3 (x_dk dn_409_0_3_ok 11 rfl)))
  (e_Tok2
  (e_Lok (e_st (I := eI) (er_l2i (x_dk dn_409_0_3_ok 12 rfl)) (nx_unL (fun _ => rfl))))
  (e_Lok (e_rt (I := eI) (k := 1) ⟨(x_dk dn_409_0_3_ok 13 rfl), rfl⟩)))))))
def te_409 : Nat → eE := (e_T 67 (e_T 35 te_409_0 te_409_22) (e_T 100 te_409_44 te_409_66))
theorem te_409_ok : ∀ pc, e_EOq eft cls elay eI n_409 pc (te_409 pc) := (e_Tok2 ((e_Tok2 (te_409_0_ok) (te_409_22_ok))) ((e_Tok2 (te_409_44_ok) (te_409_66_ok))))
end
