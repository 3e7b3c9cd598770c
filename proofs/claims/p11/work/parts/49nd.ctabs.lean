noncomputable section
def dl_34_0 : List (Nat × Instr × Nat) := [(0, .aload_n 0, 1), (1, .iconst 0, 1), (2, .putfield 265, 3), (5, .aload_n 0, 1), (6, .iconst 0, 1), (7, .putfield 269, 3), (10, .aload_n 0, 1), (11, .iconst 0, 1), (12, .putfield 273, 3), (15, .aload_n 0, 1), (16, .iconst 0, 1), (17, .putfield 276, 3), (20, .aload_n 0, 1), (21, .iconst 0, 1), (22, .putfield 279, 3), (25, .aload_n 0, 1), (26, .iconst 0, 1), (27, .putfield 282, 3), (30, .aload_n 0, 1), (31, .iconst 0, 1), (32, .putfield 285, 3), (35, .aload_n 0, 1), (36, .iconst 0, 1), (37, .putfield 288, 3), (40, .aload_n 0, 1), (41, .iconst 0, 1), (42, .putfield 291, 3), (45, .iconst 0, 1), (46, .istore_n 1, 1), (47, .iload_n 1, 1), (48, .ldc 7, 2), (50, .if_icmp .ge 16, 3), (53, .aload_n 0, 1), (54, .getfield 8, 3), (57, .iload_n 1, 1), (58, .iconst 0, 1), (59, .iastore, 1), (60, .iinc 1 1, 3), (63, .goto (-16), 3), (66, .iconst 0, 1), (67, .istore_n 1, 1), (68, .iload_n 1, 1), (69, .iconst 4, 1), (70, .if_icmp .ge 100, 3), (73, .aload_n 0, 1), (74, .getfield 43, 3), (77, .iload_n 1, 1), (78, .iconst 0, 1), (79, .iastore, 1), (80, .aload_n 0, 1), (81, .getfield 8, 3), (84, .iload_n 1, 1), (85, .invokestatic 294, 3), (88, .iconst 1, 1), (89, .iadd, 1), (90, .iconst (-1), 1), (91, .iastore, 1), (92, .aload_n 0, 1), (93, .getfield 8, 3), (96, .iload_n 1, 1), (97, .invokestatic 294, 3), (100, .iconst 2, 1), (101, .iadd, 1), (102, .iconst (-1), 1), (103, .iastore, 1), (104, .aload_n 0, 1), (105, .getfield 8, 3), (108, .iload_n 1, 1), (109, .invokestatic 294, 3), (112, .iconst 3, 1), (113, .iadd, 1), (114, .iconst (-1), 1), (115, .iastore, 1), (116, .aload_n 0, 1), (117, .getfield 8, 3), (120, .iload_n 1, 1), (121, .invokestatic 294, 3), (124, .bipush 9, 2), (126, .iadd, 1), (127, .iconst (-1), 1), (128, .iastore, 1), (129, .aload_n 0, 1), (130, .getfield 104, 3), (133, .iload_n 1, 1), (134, .iconst (-1), 1), (135, .iastore, 1), (136, .aload_n 0, 1), (137, .getfield 24, 3), (140, .iload_n 1, 1), (141, .iconst 0, 1), (142, .iastore, 1), (143, .aload_n 0, 1), (144, .getfield 201, 3), (147, .iload_n 1, 1), (148, .iconst 0, 1), (149, .iastore, 1), (150, .aload_n 0, 1), (151, .getfield 204, 3), (154, .iload_n 1, 1), (155, .iconst 0, 1)]
set_option maxRecDepth 20000 in
theorem dl_34_0_ok : dl_34_0.all (fun q => decide (decode prog_14_method_3_code q.1 = .ok (q.2.1, q.2.2))) = true := xa_g_ok (by decide +kernel)
def dl_34_1 : List (Nat × Instr × Nat) := [(156, .iastore, 1), (157, .aload_n 0, 1), (158, .getfield 207, 3), (161, .iload_n 1, 1), (162, .iconst 0, 1), (163, .bastore, 1), (164, .iinc 1 1, 3), (167, .goto (-99), 3), (170, .iconst 0, 1), (171, .istore_n 1, 1), (172, .iload_n 1, 1), (173, .bipush 16, 2), (175, .if_icmp .ge 21, 3), (178, .aload_n 0, 1), (179, .getfield 8, 3), (182, .iload_n 1, 1), (183, .invokestatic 298, 3), (186, .iconst 1, 1), (187, .iadd, 1), (188, .iconst (-1), 1), (189, .iastore, 1), (190, .iinc 1 1, 3), (193, .goto (-21), 3), (196, .iconst 0, 1), (197, .istore_n 1, 1), (198, .iload_n 1, 1), (199, .bipush 8, 2), (201, .if_icmp .ge 55, 3), (204, .aload_n 0, 1), (205, .getfield 8, 3), (208, .sipush 20868, 3), (211, .iload_n 1, 1), (212, .iadd, 1), (213, .iconst (-1), 1), (214, .iastore, 1), (215, .aload_n 0, 1), (216, .getfield 8, 3), (219, .sipush 20836, 3), (222, .iconst 4, 1), (223, .iload_n 1, 1), (224, .imul, 1), (225, .iadd, 1), (226, .iconst 1, 1), (227, .iastore, 1), (228, .aload_n 0, 1), (229, .getfield 8, 3), (232, .sipush 20836, 3), (235, .iconst 4, 1), (236, .iload_n 1, 1), (237, .imul, 1), (238, .iadd, 1), (239, .iconst 1, 1), (240, .iadd, 1), (241, .iconst 1, 1), (242, .iastore, 1), (243, .aload_n 0, 1), (244, .getfield 137, 3), (247, .iload_n 1, 1), (248, .iconst 0, 1), (249, .bastore, 1), (250, .iinc 1 1, 3), (253, .goto (-55), 3), (256, .iconst 0, 1), (257, .istore_n 1, 1), (258, .iload_n 1, 1), (259, .bipush 64, 2), (261, .if_icmp .ge 16, 3), (264, .aload_n 0, 1), (265, .getfield 140, 3), (268, .iload_n 1, 1), (269, .iconst (-1), 1), (270, .iastore, 1), (271, .iinc 1 1, 3), (274, .goto (-16), 3), (277, .iconst 0, 1), (278, .istore_n 1, 1), (279, .iload_n 1, 1), (280, .sipush 448, 3), (283, .if_icmp .ge 16, 3), (286, .aload_n 0, 1), (287, .getfield 83, 3), (290, .iload_n 1, 1), (291, .iconst 0, 1), (292, .bastore, 1), (293, .iinc 1 1, 3), (296, .goto (-17), 3), (299, .return_, 1)]
set_option maxRecDepth 20000 in
theorem dl_34_1_ok : dl_34_1.all (fun q => decide (decode prog_14_method_3_code q.1 = .ok (q.2.1, q.2.2))) = true := xa_g_ok (by decide +kernel)
def tb_34_0 : Nat → xE := (x_T 16 (x_T 6 (x_T 1 (x_T 0 (x_L 0 (0, xi_load 0 2 1, 0, 0)) (x_L 1 (0, xi_push (0, 0, 0) 2, 0, 0))) (x_T 2 (x_L 2 (0, xi_putf 12 3 1 5, 0, 0)) (x_T 5 (x_L 5 (0, xi_load 0 2 6, 0, 0)) (x_L 6 (0, xi_push (0, 0, 0) 7, 0, 0))))) (x_T 11 (x_T 7 (x_L 7 (0, xi_putf 12 10 0 10, 0, 0)) (x_T 10 (x_L 10 (0, xi_load 0 2 11, 0, 0)) (x_L 11 (0, xi_push (0, 0, 0) 12, 0, 0)))) (x_T 12 (x_L 12 (0, xi_putf 12 23 0 15, 0, 0)) (x_T 15 (x_L 15 (0, xi_load 0 2 16, 0, 0)) (x_L 16 (0, xi_push (0, 0, 0) 17, 0, 0)))))) (x_T 26 (x_T 21 (x_T 17 (x_L 17 (0, xi_putf 12 30 0 20, 0, 0)) (x_T 20 (x_L 20 (0, xi_load 0 2 21, 0, 0)) (x_L 21 (0, xi_push (0, 0, 0) 22, 0, 0)))) (x_T 22 (x_L 22 (0, xi_putf 12 40 0 25, 0, 0)) (x_T 25 (x_L 25 (0, xi_load 0 2 26, 0, 0)) (x_L 26 (0, xi_push (0, 0, 0) 27, 0, 0))))) (x_T 31 (x_T 27 (x_L 27 (0, xi_putf 12 42 0 30, 0, 0)) (x_T 30 (x_L 30 (0, xi_load 0 2 31, 0, 0)) (x_L 31 (0, xi_push (0, 0, 0) 32, 0, 0)))) (x_T 32 (x_L 32 (0, xi_putf 12 49 0 35, 0, 0)) (x_T 35 (x_L 35 (0, xi_load 0 2 36, 0, 0)) (x_L 36 (0, xi_push (0, 0, 0) 37, 0, 0)))))))
set_option maxRecDepth 20000 in
set_option maxHeartbeats 4000000 in
theorem tb_34_0_ok (K : xKx) (hK : x_KP K) : ∀ pc, x_EOq cls K xJ mq_34 pc (tb_34_0 pc) :=
  (x_Tok2
  (x_Tok2
  (x_Tok2
  (x_Tok2
  (x_Lok (x_st (I := xJ) (xr_aload_n (i := 0) (x_dk dl_34_0_ok 0 rfl))))
  (x_Lok (x_st (I := xJ) (xr_iconst (n := 0) (z := 0) (v := 0) (x_dk dl_34_0_ok 1 rfl) (by decide) (by decide)))))
  (x_Tok2
  (x_Lok (x_st (I := xJ) (xr_putf (ci := 12) (k := 3) (ix := 265) (N := 119) (fk := 1) (C := RX12) (T := TX12) (ty0 := tyX12) (ty := .boolean) rfl in_X12 tyX12_ok nmX12 (by decide) (in_t9 (List.mem_of_getElem? (i := 118) rfl) rfl) rfl rfl x_fit_bool (x_dk dl_34_0_ok 2 rfl))))
  (x_Tok2
  (x_Lok (x_st (I := xJ) (xr_aload_n (i := 0) (x_dk dl_34_0_ok 3 rfl))))
  (x_Lok (x_st (I := xJ) (xr_iconst (n := 0) (z := 0) (v := 0) (x_dk dl_34_0_ok 4 rfl) (by decide) (by decide)))))))
  (x_Tok2
  (x_Tok2
  (x_Lok (x_st (I := xJ) (xr_putf (ci := 12) (k := 10) (ix := 269) (N := 119) (fk := 0) (C := RX12) (T := TX12) (ty0 := tyX12) (ty := .int) rfl in_X12 tyX12_ok nmX12 (by decide) (in_t9 (List.mem_of_getElem? (i := 125) rfl) rfl) rfl rfl x_fit_int (x_dk dl_34_0_ok 5 rfl))))
  (x_Tok2
  (x_Lok (x_st (I := xJ) (xr_aload_n (i := 0) (x_dk dl_34_0_ok 6 rfl))))
  (x_Lok (x_st (I := xJ) (xr_iconst (n := 0) (z := 0) (v := 0) (x_dk dl_34_0_ok 7 rfl) (by decide) (by decide))))))
  (x_Tok2
  (x_Lok (x_st (I := xJ) (xr_putf (ci := 12) (k := 23) (ix := 273) (N := 119) (fk := 0) (C := RX12) (T := TX12) (ty0 := tyX12) (ty := .int) rfl in_X12 tyX12_ok nmX12 (by decide) (in_t9 (List.mem_of_getElem? (i := 138) rfl) rfl) rfl rfl x_fit_int (x_dk dl_34_0_ok 8 rfl))))
  (x_Tok2
  (x_Lok (x_st (I := xJ) (xr_aload_n (i := 0) (x_dk dl_34_0_ok 9 rfl))))
  (x_Lok (x_st (I := xJ) (xr_iconst (n := 0) (z := 0) (v := 0) (x_dk dl_34_0_ok 10 rfl) (by decide) (by decide))))))))
  (x_Tok2
  (x_Tok2
  (x_Tok2
  (x_Lok (x_st (I := xJ) (xr_putf (ci := 12) (k := 30) (ix := 276) (N := 119) (fk := 0) (C := RX12) (T := TX12) (ty0 := tyX12) (ty := .int) rfl in_X12 tyX12_ok nmX12 (by decide) (in_t9 (List.mem_of_getElem? (i := 145) rfl) rfl) rfl rfl x_fit_int (x_dk dl_34_0_ok 11 rfl))))
  (x_Tok2
  (x_Lok (x_st (I := xJ) (xr_aload_n (i := 0) (x_dk dl_34_0_ok 12 rfl))))
  (x_Lok (x_st (I := xJ) (xr_iconst (n := 0) (z := 0) (v := 0) (x_dk dl_34_0_ok 13 rfl) (by decide) (by decide))))))
  (x_Tok2
  (x_Lok (x_st (I := xJ) (xr_putf (ci := 12) (k := 40) (ix := 279) (N := 119) (fk := 0) (C := RX12) (T := TX12) (ty0 := tyX12) (ty := .int) rfl in_X12 tyX12_ok nmX12 (by decide) (in_t9 (List.mem_of_getElem? (i := 155) rfl) rfl) rfl rfl x_fit_int (x_dk dl_34_0_ok 14 rfl))))
  (x_Tok2
  (x_Lok (x_st (I := xJ) (xr_aload_n (i := 0) (x_dk dl_34_0_ok 15 rfl))))
  (x_Lok (x_st (I := xJ) (xr_iconst (n := 0) (z := 0) (v := 0) (x_dk dl_34_0_ok 16 rfl) (by decide) (by decide)))))))
  (x_Tok2
  (x_Tok2
  (x_Lok (x_st (I := xJ) (xr_putf (ci := 12) (k := 42) (ix := 282) (N := 119) (fk := 0) (C := RX12) (T := TX12) (ty0 := tyX12) (ty := .int) rfl in_X12 tyX12_ok nmX12 (by decide) (in_t9 (List.mem_of_getElem? (i := 157) rfl) rfl) rfl rfl x_fit_int (x_dk dl_34_0_ok 17 rfl))))
  (x_Tok2
  (x_Lok (x_st (I := xJ) (xr_aload_n (i := 0) (x_dk dl_34_0_ok 18 rfl))))
  (x_Lok (x_st (I := xJ) (xr_iconst (n := 0) (z := 0) (v := 0) (x_dk dl_34_0_ok 19 rfl) (by decide) (by decide))))))
  (x_Tok2
  (x_Lok (x_st (I := xJ) (xr_putf (ci := 12) (k := 49) (ix := 285) (N := 119) (fk := 0) (C := RX12) (T := TX12) (ty0 := tyX12) (ty := .int) rfl in_X12 tyX12_ok nmX12 (by decide) (in_t9 (List.mem_of_getElem? (i := 164) rfl) rfl) rfl rfl x_fit_int (x_dk dl_34_0_ok 20 rfl))))
  (x_Tok2
  (x_Lok (x_st (I := xJ) (xr_aload_n (i := 0) (x_dk dl_34_0_ok 21 rfl))))
  (x_Lok (x_st (I := xJ) (xr_iconst (n := 0) (z := 0) (v := 0) (x_dk dl_34_0_ok 22 rfl) (by decide) (by decide)))))))))
def tb_34_23 : Nat → xE := (x_T 54 (x_T 45 (x_T 40 (x_T 37 (x_L 37 (0, xi_putf 12 5 0 40, 0, 0)) (x_L 40 (0, xi_load 0 2 41, 0, 0))) (x_T 41 (x_L 41 (0, xi_push (0, 0, 0) 42, 0, 0)) (x_T 42 (x_L 42 (0, xi_putf 12 118 0 45, 0, 0)) (x_L 45 (0, xi_push (0, 0, 0) 46, 0, 0))))) (x_T 48 (x_T 46 (x_L 46 (0, xi_stor 1 0 47, 0, 0)) (x_T 47 (x_L 47 (3, xi_load 1 0 48, 0, 0)) (x_L 48 (0, xi_push (0, 33060, 33060) 50, 0, 0)))) (x_T 50 (x_L 50 (0, xi_if2 3 66 53, 0, 0)) (x_T 53 (x_L 53 (0, xi_load 0 2 54, 0, 0)) (x_L 54 (0, xi_getf 12 0 57, 0, 0)))))) (x_T 66 (x_T 59 (x_T 57 (x_L 57 (0, xi_load 1 0 58, 0, 0)) (x_T 58 (x_L 58 (0, xi_push (0, 0, 0) 59, 0, 0)) (x_L 59 (0, xi_ast false 60, 0, 0)))) (x_T 60 (x_L 60 (0, xi_incT 1 63, 0, 0)) (x_T 63 (x_L 63 (0, xi_goto 47, 0, 0)) (x_L 66 (0, xi_push (0, 0, 0) 67, 0, 0))))) (x_T 69 (x_T 67 (x_L 67 (0, xi_stor 1 0 68, 0, 0)) (x_T 68 (x_L 68 (0, xi_load 1 0 69, 0, 0)) (x_L 69 (0, xi_push (0, 4, 4) 70, 0, 0)))) (x_T 70 (x_L 70 (0, xi_if2 3 170 73, 0, 0)) (x_T 73 (x_L 73 (0, xi_load 0 2 74, 0, 0)) (x_L 74 (0, xi_getf 12 15 77, 0, 0)))))))
set_option maxRecDepth 20000 in
set_option maxHeartbeats 4000000 in
theorem tb_34_23_ok (K : xKx) (hK : x_KP K) : ∀ pc, x_EOq cls K xJ mq_34 pc (tb_34_23 pc) :=
  (x_Tok2
  (x_Tok2
  (x_Tok2
  (x_Tok2
  (x_Lok (x_st (I := xJ) (xr_putf (ci := 12) (k := 5) (ix := 288) (N := 119) (fk := 0) (C := RX12) (T := TX12) (ty0 := tyX12) (ty := .int) rfl in_X12 tyX12_ok nmX12 (by decide) (in_t9 (List.mem_of_getElem? (i := 120) rfl) rfl) rfl rfl x_fit_int (x_dk dl_34_0_ok 23 rfl))))
  (x_Lok (x_st (I := xJ) (xr_aload_n (i := 0) (x_dk dl_34_0_ok 24 rfl)))))
  (x_Tok2
  (x_Lok (x_st (I := xJ) (xr_iconst (n := 0) (z := 0) (v := 0) (x_dk dl_34_0_ok 25 rfl) (by decide) (by decide))))
  (x_Tok2
  (x_Lok (x_st (I := xJ) (xr_putf (ci := 12) (k := 118) (ix := 291) (N := 119) (fk := 0) (C := RX12) (T := TX12) (ty0 := tyX12) (ty := .int) rfl in_X12 tyX12_ok nmX12 (by decide) (in_t9 (List.mem_of_getElem? (i := 233) rfl) rfl) rfl rfl x_fit_int (x_dk dl_34_0_ok 26 rfl))))
  (x_Lok (x_st (I := xJ) (xr_iconst (n := 0) (z := 0) (v := 0) (x_dk dl_34_0_ok 27 rfl) (by decide) (by decide)))))))
  (x_Tok2
  (x_Tok2
  (x_Lok (x_st (I := xJ) (xr_istore_n (i := 1) (x_dk dl_34_0_ok 28 rfl) (by decide +kernel))))
  (x_Tok2
  (x_Lok (x_lo (I := xJ) (L := 0) (xr_iload_n (i := 1) (x_dk dl_34_0_ok 29 rfl))))
  (x_Lok (x_st (I := xJ) (xr_ldc (ix := 7) (z := 33060) (v := 33060) (x_dk dl_34_0_ok 30 rfl) (in_t9 (List.mem_of_getElem? (i := 86) rfl) rfl) (by decide))))))
  (x_Tok2
  (x_Lok (x_st (I := xJ) (xr_icmpge (off := 16) (tg := 66) (x_dk dl_34_0_ok 31 rfl) (by decide))))
  (x_Tok2
  (x_Lok (x_st (I := xJ) (xr_aload_n (i := 0) (x_dk dl_34_0_ok 32 rfl))))
  (x_Lok (x_st (I := xJ) (xr_getf (ci := 12) (k := 0) (ix := 8) (N := 119) (C := RX12) (T := TX12) rfl in_X12 (by decide) (in_t9 (List.mem_of_getElem? (i := 115) rfl) rfl) (x_dk dl_34_0_ok 33 rfl))))))))
  (x_Tok2
  (x_Tok2
  (x_Tok2
  (x_Lok (x_st (I := xJ) (xr_iload_n (i := 1) (x_dk dl_34_0_ok 34 rfl))))
  (x_Tok2
  (x_Lok (x_st (I := xJ) (xr_iconst (n := 0) (z := 0) (v := 0) (x_dk dl_34_0_ok 35 rfl) (by decide) (by decide))))
  (x_Lok (x_st (I := xJ) (xr_iastore (x_dk dl_34_0_ok 36 rfl))))))
  (x_Tok2
  (x_Lok (x_st (I := xJ) (xr_iincT (i := 1) (x_hev hK) (x_dk dl_34_0_ok 37 rfl) (by decide +kernel))))
  (x_Tok2
  (x_Lok (x_st (I := xJ) (xr_goto (off := (-16)) (tg := 47) (x_dk dl_34_0_ok 38 rfl) (by decide))))
  (x_Lok (x_st (I := xJ) (xr_iconst (n := 0) (z := 0) (v := 0) (x_dk dl_34_0_ok 39 rfl) (by decide) (by decide)))))))
  (x_Tok2
  (x_Tok2
  (x_Lok (x_st (I := xJ) (xr_istore_n (i := 1) (x_dk dl_34_0_ok 40 rfl) (by decide +kernel))))
  (x_Tok2
  (x_Lok (x_st (I := xJ) (xr_iload_n (i := 1) (x_dk dl_34_0_ok 41 rfl))))
  (x_Lok (x_st (I := xJ) (xr_iconst (n := 4) (z := 4) (v := 4) (x_dk dl_34_0_ok 42 rfl) (by decide) (by decide))))))
  (x_Tok2
  (x_Lok (x_st (I := xJ) (xr_icmpge (off := 100) (tg := 170) (x_dk dl_34_0_ok 43 rfl) (by decide))))
  (x_Tok2
  (x_Lok (x_st (I := xJ) (xr_aload_n (i := 0) (x_dk dl_34_0_ok 44 rfl))))
  (x_Lok (x_st (I := xJ) (xr_getf (ci := 12) (k := 15) (ix := 43) (N := 119) (C := RX12) (T := TX12) rfl in_X12 (by decide) (in_t9 (List.mem_of_getElem? (i := 130) rfl) rfl) (x_dk dl_34_0_ok 45 rfl)))))))))
def tb_34_46 : Nat → xE := (x_T 91 (x_T 81 (x_T 78 (x_T 77 (x_L 77 (0, xi_load 1 0 78, 0, 0)) (x_L 78 (0, xi_push (0, 0, 0) 79, 0, 0))) (x_T 79 (x_L 79 (0, xi_ast false 80, 0, 0)) (x_T 80 (x_L 80 (0, xi_load 0 2 81, 0, 0)) (x_L 81 (0, xi_getf 12 0 84, 0, 0))))) (x_T 88 (x_T 84 (x_L 84 (0, xi_load 1 0 85, 0, 0)) (x_T 85 (x_L 85 (2, x_nof, 35, 1)) (x_L 88 (0, xi_push (0, 1, 1) 89, 0, 0)))) (x_T 89 (x_L 89 (0, xi_bin xF_add 90, 0, 0)) (x_T 90 (x_L 90 (0, xi_push (0, (-1), (-1)) 91, 0, 0)) (x_L 91 (0, xi_ast false 92, 0, 0)))))) (x_T 101 (x_T 96 (x_T 92 (x_L 92 (0, xi_load 0 2 93, 0, 0)) (x_T 93 (x_L 93 (0, xi_getf 12 0 96, 0, 0)) (x_L 96 (0, xi_load 1 0 97, 0, 0)))) (x_T 97 (x_L 97 (2, x_nof, 35, 1)) (x_T 100 (x_L 100 (0, xi_push (0, 2, 2) 101, 0, 0)) (x_L 101 (0, xi_bin xF_add 102, 0, 0))))) (x_T 104 (x_T 102 (x_L 102 (0, xi_push (0, (-1), (-1)) 103, 0, 0)) (x_T 103 (x_L 103 (0, xi_ast false 104, 0, 0)) (x_L 104 (0, xi_load 0 2 105, 0, 0)))) (x_T 105 (x_L 105 (0, xi_getf 12 0 108, 0, 0)) (x_T 108 (x_L 108 (0, xi_load 1 0 109, 0, 0)) (x_L 109 (2, x_nof, 35, 1)))))))
set_option maxRecDepth 20000 in
set_option maxHeartbeats 4000000 in
theorem tb_34_46_ok (K : xKx) (hK : x_KP K) : ∀ pc, x_EOq cls K xJ mq_34 pc (tb_34_46 pc) :=
  (x_Tok2
  (x_Tok2
  (x_Tok2
  (x_Tok2
  (x_Lok (x_st (I := xJ) (xr_iload_n (i := 1) (x_dk dl_34_0_ok 46 rfl))))
  (x_Lok (x_st (I := xJ) (xr_iconst (n := 0) (z := 0) (v := 0) (x_dk dl_34_0_ok 47 rfl) (by decide) (by decide)))))
  (x_Tok2
  (x_Lok (x_st (I := xJ) (xr_iastore (x_dk dl_34_0_ok 48 rfl))))
  (x_Tok2
  (x_Lok (x_st (I := xJ) (xr_aload_n (i := 0) (x_dk dl_34_0_ok 49 rfl))))
  (x_Lok (x_st (I := xJ) (xr_getf (ci := 12) (k := 0) (ix := 8) (N := 119) (C := RX12) (T := TX12) rfl in_X12 (by decide) (in_t9 (List.mem_of_getElem? (i := 115) rfl) rfl) (x_dk dl_34_0_ok 50 rfl)))))))
  (x_Tok2
  (x_Tok2
  (x_Lok (x_st (I := xJ) (xr_iload_n (i := 1) (x_dk dl_34_0_ok 51 rfl))))
  (x_Tok2
  (x_Lok (x_ca (I := xJ) (q' := mq_35) rfl (xr_callS (q' := mq_35) (ix := 294) (n := 1) (in_t9 (List.mem_of_getElem? (i := 111) rfl) rfl) good_w (in_t1 (List.mem_of_getElem? (i := 14) rfl) rfl) (in_t9 (List.mem_of_getElem? (i := 109) rfl) rfl) (in_t9 (List.mem_of_getElem? (i := 110) rfl) rfl) (by decide +kernel) (by decide +kernel) (x_dk dl_34_0_ok 52 rfl))))
  (x_Lok (x_st (I := xJ) (xr_iconst (n := 1) (z := 1) (v := 1) (x_dk dl_34_0_ok 53 rfl) (by decide) (by decide))))))
  (x_Tok2
  (x_Lok (x_st (I := xJ) (xr_iadd (x_dk dl_34_0_ok 54 rfl))))
  (x_Tok2
  (x_Lok (x_st (I := xJ) (xr_iconst (n := (-1)) (z := (-1)) (v := (-1)) (x_dk dl_34_0_ok 55 rfl) (by decide) (by decide))))
  (x_Lok (x_st (I := xJ) (xr_iastore (x_dk dl_34_0_ok 56 rfl))))))))
  (x_Tok2
  (x_Tok2
  (x_Tok2
  (x_Lok (x_st (I := xJ) (xr_aload_n (i := 0) (x_dk dl_34_0_ok 57 rfl))))
  (x_Tok2
  (x_Lok (x_st (I := xJ) (xr_getf (ci := 12) (k := 0) (ix := 8) (N := 119) (C := RX12) (T := TX12) rfl in_X12 (by decide) (in_t9 (List.mem_of_getElem? (i := 115) rfl) rfl) (x_dk dl_34_0_ok 58 rfl))))
  (x_Lok (x_st (I := xJ) (xr_iload_n (i := 1) (x_dk dl_34_0_ok 59 rfl))))))
  (x_Tok2
  (x_Lok (x_ca (I := xJ) (q' := mq_35) rfl (xr_callS (q' := mq_35) (ix := 294) (n := 1) (in_t9 (List.mem_of_getElem? (i := 111) rfl) rfl) good_w (in_t1 (List.mem_of_getElem? (i := 14) rfl) rfl) (in_t9 (List.mem_of_getElem? (i := 109) rfl) rfl) (in_t9 (List.mem_of_getElem? (i := 110) rfl) rfl) (by decide +kernel) (by decide +kernel) (x_dk dl_34_0_ok 60 rfl))))
  (x_Tok2
  (x_Lok (x_st (I := xJ) (xr_iconst (n := 2) (z := 2) (v := 2) (x_dk dl_34_0_ok 61 rfl) (by decide) (by decide))))
  (x_Lok (x_st (I := xJ) (xr_iadd (x_dk dl_34_0_ok 62 rfl)))))))
  (x_Tok2
  (x_Tok2
  (x_Lok (x_st (I := xJ) (xr_iconst (n := (-1)) (z := (-1)) (v := (-1)) (x_dk dl_34_0_ok 63 rfl) (by decide) (by decide))))
  (x_Tok2
  (x_Lok (x_st (I := xJ) (xr_iastore (x_dk dl_34_0_ok 64 rfl))))
  (x_Lok (x_st (I := xJ) (xr_aload_n (i := 0) (x_dk dl_34_0_ok 65 rfl))))))
  (x_Tok2
  (x_Lok (x_st (I := xJ) (xr_getf (ci := 12) (k := 0) (ix := 8) (N := 119) (C := RX12) (T := TX12) rfl in_X12 (by decide) (in_t9 (List.mem_of_getElem? (i := 115) rfl) rfl) (x_dk dl_34_0_ok 66 rfl))))
  (x_Tok2
  (x_Lok (x_st (I := xJ) (xr_iload_n (i := 1) (x_dk dl_34_0_ok 67 rfl))))
  (x_Lok (x_ca (I := xJ) (q' := mq_35) rfl (xr_callS (q' := mq_35) (ix := 294) (n := 1) (in_t9 (List.mem_of_getElem? (i := 111) rfl) rfl) good_w (in_t1 (List.mem_of_getElem? (i := 14) rfl) rfl) (in_t9 (List.mem_of_getElem? (i := 109) rfl) rfl) (in_t9 (List.mem_of_getElem? (i := 110) rfl) rfl) (by decide +kernel) (by decide +kernel) (x_dk dl_34_0_ok 68 rfl)))))))))
def tb_34_69 : Nat → xE := (x_T 128 (x_T 117 (x_T 114 (x_T 112 (x_L 112 (0, xi_push (0, 3, 3) 113, 0, 0)) (x_T 113 (x_L 113 (0, xi_bin xF_add 114, 0, 0)) (x_L 114 (0, xi_push (0, (-1), (-1)) 115, 0, 0)))) (x_T 115 (x_L 115 (0, xi_ast false 116, 0, 0)) (x_T 116 (x_L 116 (0, xi_load 0 2 117, 0, 0)) (x_L 117 (0, xi_getf 12 0 120, 0, 0))))) (x_T 124 (x_T 120 (x_L 120 (0, xi_load 1 0 121, 0, 0)) (x_T 121 (x_L 121 (2, x_nof, 35, 1)) (x_L 124 (0, xi_push (0, 9, 9) 126, 0, 0)))) (x_T 126 (x_L 126 (0, xi_bin xF_add 127, 0, 0)) (x_T 127 (x_L 127 (0, xi_push (0, (-1), (-1)) 128, 0, 0)) (x_L 128 (0, xi_ast false 129, 0, 0)))))) (x_T 136 (x_T 133 (x_T 129 (x_L 129 (0, xi_load 0 2 130, 0, 0)) (x_T 130 (x_L 130 (0, xi_getf 12 37 133, 0, 0)) (x_L 133 (0, xi_load 1 0 134, 0, 0)))) (x_T 134 (x_L 134 (0, xi_push (0, (-1), (-1)) 135, 0, 0)) (x_T 135 (x_L 135 (0, xi_ast false 136, 0, 0)) (x_L 136 (0, xi_load 0 2 137, 0, 0))))) (x_T 141 (x_T 137 (x_L 137 (0, xi_getf 12 7 140, 0, 0)) (x_T 140 (x_L 140 (0, xi_load 1 0 141, 0, 0)) (x_L 141 (0, xi_push (0, 0, 0) 142, 0, 0)))) (x_T 142 (x_L 142 (0, xi_ast false 143, 0, 0)) (x_T 143 (x_L 143 (0, xi_load 0 2 144, 0, 0)) (x_L 144 (0, xi_getf 12 75 147, 0, 0)))))))
set_option maxRecDepth 20000 in
set_option maxHeartbeats 4000000 in
theorem tb_34_69_ok (K : xKx) (hK : x_KP K) : ∀ pc, x_EOq cls K xJ mq_34 pc (tb_34_69 pc) :=
  (x_Tok2
  (x_Tok2
  (x_Tok2
  (x_Tok2
  (x_Lok (x_st (I := xJ) (xr_iconst (n := 3) (z := 3) (v := 3) (x_dk dl_34_0_ok 69 rfl) (by decide) (by decide))))
  (x_Tok2
  (x_Lok (x_st (I := xJ) (xr_iadd (x_dk dl_34_0_ok 70 rfl))))
  (x_Lok (x_st (I := xJ) (xr_iconst (n := (-1)) (z := (-1)) (v := (-1)) (x_dk dl_34_0_ok 71 rfl) (by decide) (by decide))))))
  (x_Tok2
  (x_Lok (x_st (I := xJ) (xr_iastore (x_dk dl_34_0_ok 72 rfl))))
  (x_Tok2
  (x_Lok (x_st (I := xJ) (xr_aload_n (i := 0) (x_dk dl_34_0_ok 73 rfl))))
  (x_Lok (x_st (I := xJ) (xr_getf (ci := 12) (k := 0) (ix := 8) (N := 119) (C := RX12) (T := TX12) rfl in_X12 (by decide) (in_t9 (List.mem_of_getElem? (i := 115) rfl) rfl) (x_dk dl_34_0_ok 74 rfl)))))))
  (x_Tok2
  (x_Tok2
  (x_Lok (x_st (I := xJ) (xr_iload_n (i := 1) (x_dk dl_34_0_ok 75 rfl))))
  (x_Tok2
  (x_Lok (x_ca (I := xJ) (q' := mq_35) rfl (xr_callS (q' := mq_35) (ix := 294) (n := 1) (in_t9 (List.mem_of_getElem? (i := 111) rfl) rfl) good_w (in_t1 (List.mem_of_getElem? (i := 14) rfl) rfl) (in_t9 (List.mem_of_getElem? (i := 109) rfl) rfl) (in_t9 (List.mem_of_getElem? (i := 110) rfl) rfl) (by decide +kernel) (by decide +kernel) (x_dk dl_34_0_ok 76 rfl))))
  (x_Lok (x_st (I := xJ) (xr_bipush (n := 9) (z := 9) (v := 9) (x_dk dl_34_0_ok 77 rfl) (by decide) (by decide))))))
  (x_Tok2
  (x_Lok (x_st (I := xJ) (xr_iadd (x_dk dl_34_0_ok 78 rfl))))
  (x_Tok2
  (x_Lok (x_st (I := xJ) (xr_iconst (n := (-1)) (z := (-1)) (v := (-1)) (x_dk dl_34_0_ok 79 rfl) (by decide) (by decide))))
  (x_Lok (x_st (I := xJ) (xr_iastore (x_dk dl_34_0_ok 80 rfl))))))))
  (x_Tok2
  (x_Tok2
  (x_Tok2
  (x_Lok (x_st (I := xJ) (xr_aload_n (i := 0) (x_dk dl_34_0_ok 81 rfl))))
  (x_Tok2
  (x_Lok (x_st (I := xJ) (xr_getf (ci := 12) (k := 37) (ix := 104) (N := 119) (C := RX12) (T := TX12) rfl in_X12 (by decide) (in_t9 (List.mem_of_getElem? (i := 152) rfl) rfl) (x_dk dl_34_0_ok 82 rfl))))
  (x_Lok (x_st (I := xJ) (xr_iload_n (i := 1) (x_dk dl_34_0_ok 83 rfl))))))
  (x_Tok2
  (x_Lok (x_st (I := xJ) (xr_iconst (n := (-1)) (z := (-1)) (v := (-1)) (x_dk dl_34_0_ok 84 rfl) (by decide) (by decide))))
  (x_Tok2
  (x_Lok (x_st (I := xJ) (xr_iastore (x_dk dl_34_0_ok 85 rfl))))
  (x_Lok (x_st (I := xJ) (xr_aload_n (i := 0) (x_dk dl_34_0_ok 86 rfl)))))))
  (x_Tok2
  (x_Tok2
  (x_Lok (x_st (I := xJ) (xr_getf (ci := 12) (k := 7) (ix := 24) (N := 119) (C := RX12) (T := TX12) rfl in_X12 (by decide) (in_t9 (List.mem_of_getElem? (i := 122) rfl) rfl) (x_dk dl_34_0_ok 87 rfl))))
  (x_Tok2
  (x_Lok (x_st (I := xJ) (xr_iload_n (i := 1) (x_dk dl_34_0_ok 88 rfl))))
  (x_Lok (x_st (I := xJ) (xr_iconst (n := 0) (z := 0) (v := 0) (x_dk dl_34_0_ok 89 rfl) (by decide) (by decide))))))
  (x_Tok2
  (x_Lok (x_st (I := xJ) (xr_iastore (x_dk dl_34_0_ok 90 rfl))))
  (x_Tok2
  (x_Lok (x_st (I := xJ) (xr_aload_n (i := 0) (x_dk dl_34_0_ok 91 rfl))))
  (x_Lok (x_st (I := xJ) (xr_getf (ci := 12) (k := 75) (ix := 201) (N := 119) (C := RX12) (T := TX12) rfl in_X12 (by decide) (in_t9 (List.mem_of_getElem? (i := 190) rfl) rfl) (x_dk dl_34_0_ok 92 rfl)))))))))
def tb_34_93 : Nat → xE := (x_T 161 (x_T 151 (x_T 148 (x_T 147 (x_L 147 (0, xi_load 1 0 148, 0, 0)) (x_L 148 (0, xi_push (0, 0, 0) 149, 0, 0))) (x_T 149 (x_L 149 (0, xi_ast false 150, 0, 0)) (x_T 150 (x_L 150 (0, xi_load 0 2 151, 0, 0)) (x_L 151 (0, xi_getf 12 76 154, 0, 0))))) (x_T 156 (x_T 154 (x_L 154 (0, xi_load 1 0 155, 0, 0)) (x_T 155 (x_L 155 (0, xi_push (0, 0, 0) 156, 0, 0)) (x_L 156 (0, xi_ast false 157, 0, 0)))) (x_T 157 (x_L 157 (0, xi_load 0 2 158, 0, 0)) (x_T 158 (x_L 158 (0, xi_getf 12 77 161, 0, 0)) (x_L 161 (0, xi_load 1 0 162, 0, 0)))))) (x_T 171 (x_T 164 (x_T 162 (x_L 162 (0, xi_push (0, 0, 0) 163, 0, 0)) (x_T 163 (x_L 163 (0, xi_ast true 164, 0, 0)) (x_L 164 (0, xi_inc 1 1 167, 0, 0)))) (x_T 167 (x_L 167 (0, xi_goto 68, 0, 0)) (x_T 170 (x_L 170 (0, xi_push (0, 0, 0) 171, 0, 0)) (x_L 171 (0, xi_stor 1 0 172, 0, 0))))) (x_T 175 (x_T 172 (x_L 172 (0, xi_load 1 0 173, 0, 0)) (x_T 173 (x_L 173 (0, xi_push (0, 16, 16) 175, 0, 0)) (x_L 175 (0, xi_if2 3 196 178, 0, 0)))) (x_T 178 (x_L 178 (0, xi_load 0 2 179, 0, 0)) (x_T 179 (x_L 179 (0, xi_getf 12 0 182, 0, 0)) (x_L 182 (0, xi_load 1 0 183, 0, 0)))))))
set_option maxRecDepth 20000 in
set_option maxHeartbeats 4000000 in
theorem tb_34_93_ok (K : xKx) (hK : x_KP K) : ∀ pc, x_EOq cls K xJ mq_34 pc (tb_34_93 pc) :=
  (x_Tok2
  (x_Tok2
  (x_Tok2
  (x_Tok2
  (x_Lok (x_st (I := xJ) (xr_iload_n (i := 1) (x_dk dl_34_0_ok 93 rfl))))
  (x_Lok (x_st (I := xJ) (xr_iconst (n := 0) (z := 0) (v := 0) (x_dk dl_34_0_ok 94 rfl) (by decide) (by decide)))))
  (x_Tok2
  (x_Lok (x_st (I := xJ) (xr_iastore (x_dk dl_34_0_ok 95 rfl))))
  (x_Tok2
  (x_Lok (x_st (I := xJ) (xr_aload_n (i := 0) (x_dk dl_34_0_ok 96 rfl))))
  (x_Lok (x_st (I := xJ) (xr_getf (ci := 12) (k := 76) (ix := 204) (N := 119) (C := RX12) (T := TX12) rfl in_X12 (by decide) (in_t9 (List.mem_of_getElem? (i := 191) rfl) rfl) (x_dk dl_34_0_ok 97 rfl)))))))
  (x_Tok2
  (x_Tok2
  (x_Lok (x_st (I := xJ) (xr_iload_n (i := 1) (x_dk dl_34_0_ok 98 rfl))))
  (x_Tok2
  (x_Lok (x_st (I := xJ) (xr_iconst (n := 0) (z := 0) (v := 0) (x_dk dl_34_0_ok 99 rfl) (by decide) (by decide))))
  (x_Lok (x_st (I := xJ) (xr_iastore (x_dk dl_34_1_ok 0 rfl))))))
  (x_Tok2
  (x_Lok (x_st (I := xJ) (xr_aload_n (i := 0) (x_dk dl_34_1_ok 1 rfl))))
  (x_Tok2
  (x_Lok (x_st (I := xJ) (xr_getf (ci := 12) (k := 77) (ix := 207) (N := 119) (C := RX12) (T := TX12) rfl in_X12 (by decide) (in_t9 (List.mem_of_getElem? (i := 192) rfl) rfl) (x_dk dl_34_1_ok 2 rfl))))
  (x_Lok (x_st (I := xJ) (xr_iload_n (i := 1) (x_dk dl_34_1_ok 3 rfl))))))))
  (x_Tok2
  (x_Tok2
  (x_Tok2
  (x_Lok (x_st (I := xJ) (xr_iconst (n := 0) (z := 0) (v := 0) (x_dk dl_34_1_ok 4 rfl) (by decide) (by decide))))
  (x_Tok2
  (x_Lok (x_st (I := xJ) (xr_bastore (x_dk dl_34_1_ok 5 rfl))))
  (x_Lok (x_st (I := xJ) (xr_iinc (i := 1) (n := 1) (x_dk dl_34_1_ok 6 rfl) (by decide +kernel) (by decide))))))
  (x_Tok2
  (x_Lok (x_st (I := xJ) (xr_goto (off := (-99)) (tg := 68) (x_dk dl_34_1_ok 7 rfl) (by decide))))
  (x_Tok2
  (x_Lok (x_st (I := xJ) (xr_iconst (n := 0) (z := 0) (v := 0) (x_dk dl_34_1_ok 8 rfl) (by decide) (by decide))))
  (x_Lok (x_st (I := xJ) (xr_istore_n (i := 1) (x_dk dl_34_1_ok 9 rfl) (by decide +kernel)))))))
  (x_Tok2
  (x_Tok2
  (x_Lok (x_st (I := xJ) (xr_iload_n (i := 1) (x_dk dl_34_1_ok 10 rfl))))
  (x_Tok2
  (x_Lok (x_st (I := xJ) (xr_bipush (n := 16) (z := 16) (v := 16) (x_dk dl_34_1_ok 11 rfl) (by decide) (by decide))))
  (x_Lok (x_st (I := xJ) (xr_icmpge (off := 21) (tg := 196) (x_dk dl_34_1_ok 12 rfl) (by decide))))))
  (x_Tok2
  (x_Lok (x_st (I := xJ) (xr_aload_n (i := 0) (x_dk dl_34_1_ok 13 rfl))))
  (x_Tok2
  (x_Lok (x_st (I := xJ) (xr_getf (ci := 12) (k := 0) (ix := 8) (N := 119) (C := RX12) (T := TX12) rfl in_X12 (by decide) (in_t9 (List.mem_of_getElem? (i := 115) rfl) rfl) (x_dk dl_34_1_ok 14 rfl))))
  (x_Lok (x_st (I := xJ) (xr_iload_n (i := 1) (x_dk dl_34_1_ok 15 rfl)))))))))
def tb_34_116 : Nat → xE := (x_T 201 (x_T 190 (x_T 187 (x_T 183 (x_L 183 (2, x_nof, 36, 1)) (x_T 186 (x_L 186 (0, xi_push (0, 1, 1) 187, 0, 0)) (x_L 187 (0, xi_bin xF_add 188, 0, 0)))) (x_T 188 (x_L 188 (0, xi_push (0, (-1), (-1)) 189, 0, 0)) (x_T 189 (x_L 189 (0, xi_ast false 190, 0, 0)) (x_L 190 (0, xi_inc 1 1 193, 0, 0))))) (x_T 197 (x_T 193 (x_L 193 (0, xi_goto 172, 0, 0)) (x_T 196 (x_L 196 (0, xi_push (0, 0, 0) 197, 0, 0)) (x_L 197 (0, xi_stor 1 0 198, 0, 0)))) (x_T 198 (x_L 198 (0, xi_load 1 0 199, 0, 0)) (x_T 199 (x_L 199 (0, xi_push (0, 8, 8) 201, 0, 0)) (x_L 201 (0, xi_if2 3 256 204, 0, 0)))))) (x_T 213 (x_T 208 (x_T 204 (x_L 204 (0, xi_load 0 2 205, 0, 0)) (x_T 205 (x_L 205 (0, xi_getf 12 0 208, 0, 0)) (x_L 208 (0, xi_push (0, 20868, 20868) 211, 0, 0)))) (x_T 211 (x_L 211 (0, xi_load 1 0 212, 0, 0)) (x_T 212 (x_L 212 (0, xi_bin xF_add 213, 0, 0)) (x_L 213 (0, xi_push (0, (-1), (-1)) 214, 0, 0))))) (x_T 216 (x_T 214 (x_L 214 (0, xi_ast false 215, 0, 0)) (x_T 215 (x_L 215 (0, xi_load 0 2 216, 0, 0)) (x_L 216 (0, xi_getf 12 0 219, 0, 0)))) (x_T 219 (x_L 219 (0, xi_push (0, 20836, 20836) 222, 0, 0)) (x_T 222 (x_L 222 (0, xi_push (0, 4, 4) 223, 0, 0)) (x_L 223 (0, xi_load 1 0 224, 0, 0)))))))
set_option maxRecDepth 20000 in
set_option maxHeartbeats 4000000 in
theorem tb_34_116_ok (K : xKx) (hK : x_KP K) : ∀ pc, x_EOq cls K xJ mq_34 pc (tb_34_116 pc) :=
  (x_Tok2
  (x_Tok2
  (x_Tok2
  (x_Tok2
  (x_Lok (x_ca (I := xJ) (q' := mq_36) rfl (xr_callS (q' := mq_36) (ix := 298) (n := 1) (in_t9 (List.mem_of_getElem? (i := 114) rfl) rfl) good_w (in_t1 (List.mem_of_getElem? (i := 14) rfl) rfl) (in_t9 (List.mem_of_getElem? (i := 112) rfl) rfl) (in_t9 (List.mem_of_getElem? (i := 113) rfl) rfl) (by decide +kernel) (by decide +kernel) (x_dk dl_34_1_ok 16 rfl))))
  (x_Tok2
  (x_Lok (x_st (I := xJ) (xr_iconst (n := 1) (z := 1) (v := 1) (x_dk dl_34_1_ok 17 rfl) (by decide) (by decide))))
  (x_Lok (x_st (I := xJ) (xr_iadd (x_dk dl_34_1_ok 18 rfl))))))
  (x_Tok2
  (x_Lok (x_st (I := xJ) (xr_iconst (n := (-1)) (z := (-1)) (v := (-1)) (x_dk dl_34_1_ok 19 rfl) (by decide) (by decide))))
  (x_Tok2
  (x_Lok (x_st (I := xJ) (xr_iastore (x_dk dl_34_1_ok 20 rfl))))
  (x_Lok (x_st (I := xJ) (xr_iinc (i := 1) (n := 1) (x_dk dl_34_1_ok 21 rfl) (by decide +kernel) (by decide)))))))
  (x_Tok2
  (x_Tok2
  (x_Lok (x_st (I := xJ) (xr_goto (off := (-21)) (tg := 172) (x_dk dl_34_1_ok 22 rfl) (by decide))))
  (x_Tok2
  (x_Lok (x_st (I := xJ) (xr_iconst (n := 0) (z := 0) (v := 0) (x_dk dl_34_1_ok 23 rfl) (by decide) (by decide))))
  (x_Lok (x_st (I := xJ) (xr_istore_n (i := 1) (x_dk dl_34_1_ok 24 rfl) (by decide +kernel))))))
  (x_Tok2
  (x_Lok (x_st (I := xJ) (xr_iload_n (i := 1) (x_dk dl_34_1_ok 25 rfl))))
  (x_Tok2
  (x_Lok (x_st (I := xJ) (xr_bipush (n := 8) (z := 8) (v := 8) (x_dk dl_34_1_ok 26 rfl) (by decide) (by decide))))
  (x_Lok (x_st (I := xJ) (xr_icmpge (off := 55) (tg := 256) (x_dk dl_34_1_ok 27 rfl) (by decide))))))))
  (x_Tok2
  (x_Tok2
  (x_Tok2
  (x_Lok (x_st (I := xJ) (xr_aload_n (i := 0) (x_dk dl_34_1_ok 28 rfl))))
  (x_Tok2
  (x_Lok (x_st (I := xJ) (xr_getf (ci := 12) (k := 0) (ix := 8) (N := 119) (C := RX12) (T := TX12) rfl in_X12 (by decide) (in_t9 (List.mem_of_getElem? (i := 115) rfl) rfl) (x_dk dl_34_1_ok 29 rfl))))
  (x_Lok (x_st (I := xJ) (xr_sipush (n := 20868) (z := 20868) (v := 20868) (x_dk dl_34_1_ok 30 rfl) (by decide) (by decide))))))
  (x_Tok2
  (x_Lok (x_st (I := xJ) (xr_iload_n (i := 1) (x_dk dl_34_1_ok 31 rfl))))
  (x_Tok2
  (x_Lok (x_st (I := xJ) (xr_iadd (x_dk dl_34_1_ok 32 rfl))))
  (x_Lok (x_st (I := xJ) (xr_iconst (n := (-1)) (z := (-1)) (v := (-1)) (x_dk dl_34_1_ok 33 rfl) (by decide) (by decide)))))))
  (x_Tok2
  (x_Tok2
  (x_Lok (x_st (I := xJ) (xr_iastore (x_dk dl_34_1_ok 34 rfl))))
  (x_Tok2
  (x_Lok (x_st (I := xJ) (xr_aload_n (i := 0) (x_dk dl_34_1_ok 35 rfl))))
  (x_Lok (x_st (I := xJ) (xr_getf (ci := 12) (k := 0) (ix := 8) (N := 119) (C := RX12) (T := TX12) rfl in_X12 (by decide) (in_t9 (List.mem_of_getElem? (i := 115) rfl) rfl) (x_dk dl_34_1_ok 36 rfl))))))
  (x_Tok2
  (x_Lok (x_st (I := xJ) (xr_sipush (n := 20836) (z := 20836) (v := 20836) (x_dk dl_34_1_ok 37 rfl) (by decide) (by decide))))
  (x_Tok2
  (x_Lok (x_st (I := xJ) (xr_iconst (n := 4) (z := 4) (v := 4) (x_dk dl_34_1_ok 38 rfl) (by decide) (by decide))))
  (x_Lok (x_st (I := xJ) (xr_iload_n (i := 1) (x_dk dl_34_1_ok 39 rfl)))))))))
def tb_34_140 : Nat → xE := (x_T 238 (x_T 228 (x_T 225 (x_T 224 (x_L 224 (0, xi_bin xF_mul 225, 0, 0)) (x_L 225 (0, xi_bin xF_add 226, 0, 0))) (x_T 226 (x_L 226 (0, xi_push (0, 1, 1) 227, 0, 0)) (x_T 227 (x_L 227 (0, xi_ast false 228, 0, 0)) (x_L 228 (0, xi_load 0 2 229, 0, 0))))) (x_T 235 (x_T 229 (x_L 229 (0, xi_getf 12 0 232, 0, 0)) (x_T 232 (x_L 232 (0, xi_push (0, 20836, 20836) 235, 0, 0)) (x_L 235 (0, xi_push (0, 4, 4) 236, 0, 0)))) (x_T 236 (x_L 236 (0, xi_load 1 0 237, 0, 0)) (x_T 237 (x_L 237 (0, xi_bin xF_mul 238, 0, 0)) (x_L 238 (0, xi_bin xF_add 239, 0, 0)))))) (x_T 244 (x_T 241 (x_T 239 (x_L 239 (0, xi_push (0, 1, 1) 240, 0, 0)) (x_T 240 (x_L 240 (0, xi_bin xF_add 241, 0, 0)) (x_L 241 (0, xi_push (0, 1, 1) 242, 0, 0)))) (x_T 242 (x_L 242 (0, xi_ast false 243, 0, 0)) (x_T 243 (x_L 243 (0, xi_load 0 2 244, 0, 0)) (x_L 244 (0, xi_getf 12 51 247, 0, 0))))) (x_T 249 (x_T 247 (x_L 247 (0, xi_load 1 0 248, 0, 0)) (x_T 248 (x_L 248 (0, xi_push (0, 0, 0) 249, 0, 0)) (x_L 249 (0, xi_ast true 250, 0, 0)))) (x_T 250 (x_L 250 (0, xi_inc 1 1 253, 0, 0)) (x_T 253 (x_L 253 (0, xi_goto 198, 0, 0)) (x_L 256 (0, xi_push (0, 0, 0) 257, 0, 0)))))))
set_option maxRecDepth 20000 in
set_option maxHeartbeats 4000000 in
theorem tb_34_140_ok (K : xKx) (hK : x_KP K) : ∀ pc, x_EOq cls K xJ mq_34 pc (tb_34_140 pc) :=
  (x_Tok2
  (x_Tok2
  (x_Tok2
  (x_Tok2
  (x_Lok (x_st (I := xJ) (xr_imul (x_dk dl_34_1_ok 40 rfl))))
  (x_Lok (x_st (I := xJ) (xr_iadd (x_dk dl_34_1_ok 41 rfl)))))
  (x_Tok2
  (x_Lok (x_st (I := xJ) (xr_iconst (n := 1) (z := 1) (v := 1) (x_dk dl_34_1_ok 42 rfl) (by decide) (by decide))))
  (x_Tok2
  (x_Lok (x_st (I := xJ) (xr_iastore (x_dk dl_34_1_ok 43 rfl))))
  (x_Lok (x_st (I := xJ) (xr_aload_n (i := 0) (x_dk dl_34_1_ok 44 rfl)))))))
  (x_Tok2
  (x_Tok2
  (x_Lok (x_st (I := xJ) (xr_getf (ci := 12) (k := 0) (ix := 8) (N := 119) (C := RX12) (T := TX12) rfl in_X12 (by decide) (in_t9 (List.mem_of_getElem? (i := 115) rfl) rfl) (x_dk dl_34_1_ok 45 rfl))))
  (x_Tok2
  (x_Lok (x_st (I := xJ) (xr_sipush (n := 20836) (z := 20836) (v := 20836) (x_dk dl_34_1_ok 46 rfl) (by decide) (by decide))))
  (x_Lok (x_st (I := xJ) (xr_iconst (n := 4) (z := 4) (v := 4) (x_dk dl_34_1_ok 47 rfl) (by decide) (by decide))))))
  (x_Tok2
  (x_Lok (x_st (I := xJ) (xr_iload_n (i := 1) (x_dk dl_34_1_ok 48 rfl))))
  (x_Tok2
  (x_Lok (x_st (I := xJ) (xr_imul (x_dk dl_34_1_ok 49 rfl))))
  (x_Lok (x_st (I := xJ) (xr_iadd (x_dk dl_34_1_ok 50 rfl))))))))
  (x_Tok2
  (x_Tok2
  (x_Tok2
  (x_Lok (x_st (I := xJ) (xr_iconst (n := 1) (z := 1) (v := 1) (x_dk dl_34_1_ok 51 rfl) (by decide) (by decide))))
  (x_Tok2
  (x_Lok (x_st (I := xJ) (xr_iadd (x_dk dl_34_1_ok 52 rfl))))
  (x_Lok (x_st (I := xJ) (xr_iconst (n := 1) (z := 1) (v := 1) (x_dk dl_34_1_ok 53 rfl) (by decide) (by decide))))))
  (x_Tok2
  (x_Lok (x_st (I := xJ) (xr_iastore (x_dk dl_34_1_ok 54 rfl))))
  (x_Tok2
  (x_Lok (x_st (I := xJ) (xr_aload_n (i := 0) (x_dk dl_34_1_ok 55 rfl))))
  (x_Lok (x_st (I := xJ) (xr_getf (ci := 12) (k := 51) (ix := 137) (N := 119) (C := RX12) (T := TX12) rfl in_X12 (by decide) (in_t9 (List.mem_of_getElem? (i := 166) rfl) rfl) (x_dk dl_34_1_ok 56 rfl)))))))
  (x_Tok2
  (x_Tok2
  (x_Lok (x_st (I := xJ) (xr_iload_n (i := 1) (x_dk dl_34_1_ok 57 rfl))))
  (x_Tok2
  (x_Lok (x_st (I := xJ) (xr_iconst (n := 0) (z := 0) (v := 0) (x_dk dl_34_1_ok 58 rfl) (by decide) (by decide))))
  (x_Lok (x_st (I := xJ) (xr_bastore (x_dk dl_34_1_ok 59 rfl))))))
  (x_Tok2
  (x_Lok (x_st (I := xJ) (xr_iinc (i := 1) (n := 1) (x_dk dl_34_1_ok 60 rfl) (by decide +kernel) (by decide))))
  (x_Tok2
  (x_Lok (x_st (I := xJ) (xr_goto (off := (-55)) (tg := 198) (x_dk dl_34_1_ok 61 rfl) (by decide))))
  (x_Lok (x_st (I := xJ) (xr_iconst (n := 0) (z := 0) (v := 0) (x_dk dl_34_1_ok 62 rfl) (by decide) (by decide)))))))))
def tb_34_163 : Nat → xE := (x_T 277 (x_T 265 (x_T 259 (x_T 257 (x_L 257 (0, xi_stor 1 0 258, 0, 0)) (x_T 258 (x_L 258 (0, xi_load 1 0 259, 0, 0)) (x_L 259 (0, xi_push (0, 64, 64) 261, 0, 0)))) (x_T 261 (x_L 261 (0, xi_if2 3 277 264, 0, 0)) (x_T 264 (x_L 264 (0, xi_load 0 2 265, 0, 0)) (x_L 265 (0, xi_getf 12 52 268, 0, 0))))) (x_T 270 (x_T 268 (x_L 268 (0, xi_load 1 0 269, 0, 0)) (x_T 269 (x_L 269 (0, xi_push (0, (-1), (-1)) 270, 0, 0)) (x_L 270 (0, xi_ast false 271, 0, 0)))) (x_T 271 (x_L 271 (0, xi_inc 1 1 274, 0, 0)) (x_T 274 (x_L 274 (0, xi_goto 258, 0, 0)) (x_L 277 (0, xi_push (0, 0, 0) 278, 0, 0)))))) (x_T 287 (x_T 280 (x_T 278 (x_L 278 (0, xi_stor 1 0 279, 0, 0)) (x_T 279 (x_L 279 (3, xi_load 1 0 280, 1, 0)) (x_L 280 (0, xi_push (0, 448, 448) 283, 0, 0)))) (x_T 283 (x_L 283 (0, xi_if2 3 299 286, 0, 0)) (x_T 286 (x_L 286 (0, xi_load 0 2 287, 0, 0)) (x_L 287 (0, xi_getf 12 29 290, 0, 0))))) (x_T 292 (x_T 290 (x_L 290 (0, xi_load 1 0 291, 0, 0)) (x_T 291 (x_L 291 (0, xi_push (0, 0, 0) 292, 0, 0)) (x_L 292 (0, xi_ast true 293, 0, 0)))) (x_T 293 (x_L 293 (0, xi_incT 1 296, 0, 0)) (x_T 296 (x_L 296 (0, xi_goto 279, 0, 0)) (x_L 299 (1, x_nof, 0, 0)))))))
set_option maxRecDepth 20000 in
set_option maxHeartbeats 4000000 in
theorem tb_34_163_ok (K : xKx) (hK : x_KP K) : ∀ pc, x_EOq cls K xJ mq_34 pc (tb_34_163 pc) :=
  (x_Tok2
  (x_Tok2
  (x_Tok2
  (x_Tok2
  (x_Lok (x_st (I := xJ) (xr_istore_n (i := 1) (x_dk dl_34_1_ok 63 rfl) (by decide +kernel))))
  (x_Tok2
  (x_Lok (x_st (I := xJ) (xr_iload_n (i := 1) (x_dk dl_34_1_ok 64 rfl))))
  (x_Lok (x_st (I := xJ) (xr_bipush (n := 64) (z := 64) (v := 64) (x_dk dl_34_1_ok 65 rfl) (by decide) (by decide))))))
  (x_Tok2
  (x_Lok (x_st (I := xJ) (xr_icmpge (off := 16) (tg := 277) (x_dk dl_34_1_ok 66 rfl) (by decide))))
  (x_Tok2
  (x_Lok (x_st (I := xJ) (xr_aload_n (i := 0) (x_dk dl_34_1_ok 67 rfl))))
  (x_Lok (x_st (I := xJ) (xr_getf (ci := 12) (k := 52) (ix := 140) (N := 119) (C := RX12) (T := TX12) rfl in_X12 (by decide) (in_t9 (List.mem_of_getElem? (i := 167) rfl) rfl) (x_dk dl_34_1_ok 68 rfl)))))))
  (x_Tok2
  (x_Tok2
  (x_Lok (x_st (I := xJ) (xr_iload_n (i := 1) (x_dk dl_34_1_ok 69 rfl))))
  (x_Tok2
  (x_Lok (x_st (I := xJ) (xr_iconst (n := (-1)) (z := (-1)) (v := (-1)) (x_dk dl_34_1_ok 70 rfl) (by decide) (by decide))))
  (x_Lok (x_st (I := xJ) (xr_iastore (x_dk dl_34_1_ok 71 rfl))))))
  (x_Tok2
  (x_Lok (x_st (I := xJ) (xr_iinc (i := 1) (n := 1) (x_dk dl_34_1_ok 72 rfl) (by decide +kernel) (by decide))))
  (x_Tok2
  (x_Lok (x_st (I := xJ) (xr_goto (off := (-16)) (tg := 258) (x_dk dl_34_1_ok 73 rfl) (by decide))))
  (x_Lok (x_st (I := xJ) (xr_iconst (n := 0) (z := 0) (v := 0) (x_dk dl_34_1_ok 74 rfl) (by decide) (by decide))))))))
  (x_Tok2
  (x_Tok2
  (x_Tok2
  (x_Lok (x_st (I := xJ) (xr_istore_n (i := 1) (x_dk dl_34_1_ok 75 rfl) (by decide +kernel))))
  (x_Tok2
  (x_Lok (x_lo (I := xJ) (L := 1) (xr_iload_n (i := 1) (x_dk dl_34_1_ok 76 rfl))))
  (x_Lok (x_st (I := xJ) (xr_sipush (n := 448) (z := 448) (v := 448) (x_dk dl_34_1_ok 77 rfl) (by decide) (by decide))))))
  (x_Tok2
  (x_Lok (x_st (I := xJ) (xr_icmpge (off := 16) (tg := 299) (x_dk dl_34_1_ok 78 rfl) (by decide))))
  (x_Tok2
  (x_Lok (x_st (I := xJ) (xr_aload_n (i := 0) (x_dk dl_34_1_ok 79 rfl))))
  (x_Lok (x_st (I := xJ) (xr_getf (ci := 12) (k := 29) (ix := 83) (N := 119) (C := RX12) (T := TX12) rfl in_X12 (by decide) (in_t9 (List.mem_of_getElem? (i := 144) rfl) rfl) (x_dk dl_34_1_ok 80 rfl)))))))
  (x_Tok2
  (x_Tok2
  (x_Lok (x_st (I := xJ) (xr_iload_n (i := 1) (x_dk dl_34_1_ok 81 rfl))))
  (x_Tok2
  (x_Lok (x_st (I := xJ) (xr_iconst (n := 0) (z := 0) (v := 0) (x_dk dl_34_1_ok 82 rfl) (by decide) (by decide))))
  (x_Lok (x_st (I := xJ) (xr_bastore (x_dk dl_34_1_ok 83 rfl))))))
  (x_Tok2
  (x_Lok (x_st (I := xJ) (xr_iincT (i := 1) (x_hev hK) (x_dk dl_34_1_ok 84 rfl) (by decide +kernel))))
  (x_Tok2
  (x_Lok (x_st (I := xJ) (xr_goto (off := (-17)) (tg := 279) (x_dk dl_34_1_ok 85 rfl) (by decide))))
  (x_Lok (x_rt (I := xJ) (k := 0) ⟨(x_dk dl_34_1_ok 86 rfl), rfl⟩)))))))
def tb_34 : Nat → xE := (x_T 144 (x_T 74 (x_T 36 tb_34_0 tb_34_23) (x_T 109 tb_34_46 tb_34_69)) (x_T 223 (x_T 182 tb_34_93 tb_34_116) (x_T 256 tb_34_140 tb_34_163)))
theorem tb_34_ok (K : xKx) (hK : x_KP K) : ∀ pc, x_EOq cls K xJ mq_34 pc (tb_34 pc) := (x_Tok2 ((x_Tok2 ((x_Tok2 (tb_34_0_ok K hK) (tb_34_23_ok K hK))) ((x_Tok2 (tb_34_46_ok K hK) (tb_34_69_ok K hK))))) ((x_Tok2 ((x_Tok2 (tb_34_93_ok K hK) (tb_34_116_ok K hK))) ((x_Tok2 (tb_34_140_ok K hK) (tb_34_163_ok K hK))))))
def dl_35_0 : List (Nat × Instr × Nat) := [(0, .bipush 16, 2), (2, .bipush 36, 2), (4, .iload_n 0, 1), (5, .imul, 1), (6, .iadd, 1), (7, .ireturn, 1)]
set_option maxRecDepth 20000 in
theorem dl_35_0_ok : dl_35_0.all (fun q => decide (decode prog_14_method_4_code q.1 = .ok (q.2.1, q.2.2))) = true := xa_g_ok (by decide +kernel)
def tb_35_0 : Nat → xE := (x_T 4 (x_T 0 (x_L 0 (0, xi_push (0, 16, 16) 2, 0, 0)) (x_T 2 (x_L 2 (0, xi_push (0, 36, 36) 4, 0, 0)) (x_L 4 (0, xi_load 0 0 5, 0, 0)))) (x_T 5 (x_L 5 (0, xi_bin xF_mul 6, 0, 0)) (x_T 6 (x_L 6 (0, xi_bin xF_add 7, 0, 0)) (x_L 7 (1, x_nof, 1, 0)))))
set_option maxRecDepth 20000 in
set_option maxHeartbeats 4000000 in
theorem tb_35_0_ok (K : xKx) (hK : x_KP K) : ∀ pc, x_EOq cls K xJ mq_35 pc (tb_35_0 pc) :=
  (x_Tok2
  (x_Tok2
  (x_Lok (x_st (I := xJ) (xr_bipush (n := 16) (z := 16) (v := 16) (x_dk dl_35_0_ok 0 rfl) (by decide) (by decide))))
  (x_Tok2
  (x_Lok (x_st (I := xJ) (xr_bipush (n := 36) (z := 36) (v := 36) (x_dk dl_35_0_ok 1 rfl) (by decide) (by decide))))
  (x_Lok (x_st (I := xJ) (xr_iload_n (i := 0) (x_dk dl_35_0_ok 2 rfl))))))
  (x_Tok2
  (x_Lok (x_st (I := xJ) (xr_imul (x_dk dl_35_0_ok 3 rfl))))
  (x_Tok2
  (x_Lok (x_st (I := xJ) (xr_iadd (x_dk dl_35_0_ok 4 rfl))))
  (x_Lok (x_rt (I := xJ) (k := 1) ⟨(x_dk dl_35_0_ok 5 rfl), rfl⟩)))))
def tb_35 : Nat → xE := tb_35_0
theorem tb_35_ok (K : xKx) (hK : x_KP K) : ∀ pc, x_EOq cls K xJ mq_35 pc (tb_35 pc) := tb_35_0_ok K hK
def dl_36_0 : List (Nat × Instr × Nat) := [(0, .sipush 416, 3), (3, .sipush 1260, 3), (6, .iload_n 0, 1), (7, .imul, 1), (8, .iadd, 1), (9, .ireturn, 1)]
set_option maxRecDepth 20000 in
theorem dl_36_0_ok : dl_36_0.all (fun q => decide (decode prog_14_method_5_code q.1 = .ok (q.2.1, q.2.2))) = true := xa_g_ok (by decide +kernel)
def tb_36_0 : Nat → xE := (x_T 6 (x_T 0 (x_L 0 (0, xi_push (0, 416, 416) 3, 0, 0)) (x_T 3 (x_L 3 (0, xi_push (0, 1260, 1260) 6, 0, 0)) (x_L 6 (0, xi_load 0 0 7, 0, 0)))) (x_T 7 (x_L 7 (0, xi_bin xF_mul 8, 0, 0)) (x_T 8 (x_L 8 (0, xi_bin xF_add 9, 0, 0)) (x_L 9 (1, x_nof, 1, 0)))))
set_option maxRecDepth 20000 in
set_option maxHeartbeats 4000000 in
theorem tb_36_0_ok (K : xKx) (hK : x_KP K) : ∀ pc, x_EOq cls K xJ mq_36 pc (tb_36_0 pc) :=
  (x_Tok2
  (x_Tok2
  (x_Lok (x_st (I := xJ) (xr_sipush (n := 416) (z := 416) (v := 416) (x_dk dl_36_0_ok 0 rfl) (by decide) (by decide))))
  (x_Tok2
  (x_Lok (x_st (I := xJ) (xr_sipush (n := 1260) (z := 1260) (v := 1260) (x_dk dl_36_0_ok 1 rfl) (by decide) (by decide))))
  (x_Lok (x_st (I := xJ) (xr_iload_n (i := 0) (x_dk dl_36_0_ok 2 rfl))))))
  (x_Tok2
  (x_Lok (x_st (I := xJ) (xr_imul (x_dk dl_36_0_ok 3 rfl))))
  (x_Tok2
  (x_Lok (x_st (I := xJ) (xr_iadd (x_dk dl_36_0_ok 4 rfl))))
  (x_Lok (x_rt (I := xJ) (k := 1) ⟨(x_dk dl_36_0_ok 5 rfl), rfl⟩)))))
def tb_36 : Nat → xE := tb_36_0
theorem tb_36_ok (K : xKx) (hK : x_KP K) : ∀ pc, x_EOq cls K xJ mq_36 pc (tb_36 pc) := tb_36_0_ok K hK
def dl_37_0 : List (Nat × Instr × Nat) := [(0, .lload_n 0, 1), (1, .bipush 30, 2), (3, .lshr, 1), (4, .lstore 4, 2), (6, .lload_n 0, 1), (7, .ldc2_w 372, 3), (10, .land, 1), (11, .lstore 6, 2), (13, .lload_n 2, 1), (14, .bipush 30, 2), (16, .lshr, 1), (17, .lstore 8, 2), (19, .lload_n 2, 1), (20, .ldc2_w 372, 3), (23, .land, 1), (24, .lstore 10, 2), (26, .lload 4, 2), (28, .lload 8, 2), (30, .lmul, 1), (31, .lload 4, 2), (33, .lload 10, 2), (35, .lmul, 1), (36, .lload 6, 2), (38, .lload 8, 2), (40, .lmul, 1), (41, .ladd, 1), (42, .lload 6, 2), (44, .lload 10, 2), (46, .lmul, 1), (47, .bipush 30, 2), (49, .lshr, 1), (50, .ladd, 1), (51, .bipush 30, 2), (53, .lshr, 1), (54, .ladd, 1), (55, .lreturn, 1)]
set_option maxRecDepth 20000 in
theorem dl_37_0_ok : dl_37_0.all (fun q => decide (decode prog_14_method_33_code q.1 = .ok (q.2.1, q.2.2))) = true := xa_g_ok (by decide +kernel)
def tb_37_0 : Nat → xE := (x_T 28 (x_T 13 (x_T 4 (x_T 1 (x_T 0 (x_L 0 (0, xi_load 0 1 1, 0, 0)) (x_L 1 (0, xi_push (0, 30, 30) 3, 0, 0))) (x_T 3 (x_L 3 (0, xi_shL xF_shrL 4, 0, 0)) (x_L 4 (0, xi_stor 4 1 6, 0, 0)))) (x_T 7 (x_T 6 (x_L 6 (0, xi_load 0 1 7, 0, 0)) (x_L 7 (0, xi_push (4, 1073741823, 1073741823) 10, 0, 0))) (x_T 10 (x_L 10 (0, xi_binL xF_andL 11, 0, 0)) (x_T 11 (x_L 11 (0, xi_stor 6 1 13, 0, 0)) (x_L 13 (0, xi_load 2 1 14, 0, 0)))))) (x_T 19 (x_T 16 (x_T 14 (x_L 14 (0, xi_push (0, 30, 30) 16, 0, 0)) (x_L 16 (0, xi_shL xF_shrL 17, 0, 0))) (x_T 17 (x_L 17 (0, xi_stor 8 1 19, 0, 0)) (x_L 19 (0, xi_load 2 1 20, 0, 0)))) (x_T 23 (x_T 20 (x_L 20 (0, xi_push (4, 1073741823, 1073741823) 23, 0, 0)) (x_L 23 (0, xi_binL xF_andL 24, 0, 0))) (x_T 24 (x_L 24 (0, xi_stor 10 1 26, 0, 0)) (x_T 26 (x_L 26 (0, xi_load 4 1 28, 0, 0)) (x_L 28 (0, xi_load 8 1 30, 0, 0))))))) (x_T 42 (x_T 35 (x_T 31 (x_T 30 (x_L 30 (0, xi_binL xF_mulL 31, 0, 0)) (x_L 31 (0, xi_load 4 1 33, 0, 0))) (x_T 33 (x_L 33 (0, xi_load 10 1 35, 0, 0)) (x_L 35 (0, xi_binL xF_mulL 36, 0, 0)))) (x_T 38 (x_T 36 (x_L 36 (0, xi_load 6 1 38, 0, 0)) (x_L 38 (0, xi_load 8 1 40, 0, 0))) (x_T 40 (x_L 40 (0, xi_binL xF_mulL 41, 0, 0)) (x_T 41 (x_L 41 (0, xi_binL xF_addL 42, 0, 0)) (x_L 42 (0, xi_load 6 1 44, 0, 0)))))) (x_T 49 (x_T 46 (x_T 44 (x_L 44 (0, xi_load 10 1 46, 0, 0)) (x_L 46 (0, xi_binL xF_mulL 47, 0, 0))) (x_T 47 (x_L 47 (0, xi_push (0, 30, 30) 49, 0, 0)) (x_L 49 (0, xi_shL xF_shrL 50, 0, 0)))) (x_T 51 (x_T 50 (x_L 50 (0, xi_binL xF_addL 51, 0, 0)) (x_L 51 (0, xi_push (0, 30, 30) 53, 0, 0))) (x_T 53 (x_L 53 (0, xi_shL xF_shrL 54, 0, 0)) (x_T 54 (x_L 54 (0, xi_binL xF_addL 55, 0, 0)) (x_L 55 (1, x_nof, 2, 0))))))))
set_option maxRecDepth 20000 in
set_option maxHeartbeats 4000000 in
theorem tb_37_0_ok (K : xKx) (hK : x_KP K) : ∀ pc, x_EOq cls K xJ mq_37 pc (tb_37_0 pc) :=
  (x_Tok2
  (x_Tok2
  (x_Tok2
  (x_Tok2
  (x_Tok2
  (x_Lok (x_st (I := xJ) (xr_lload_n (i := 0) (x_dk dl_37_0_ok 0 rfl))))
  (x_Lok (x_st (I := xJ) (xr_bipush (n := 30) (z := 30) (v := 30) (x_dk dl_37_0_ok 1 rfl) (by decide) (by decide)))))
  (x_Tok2
  (x_Lok (x_st (I := xJ) (xr_lshr (x_dk dl_37_0_ok 2 rfl))))
  (x_Lok (x_st (I := xJ) (xr_lstore (i := 4) (x_dk dl_37_0_ok 3 rfl) (by decide +kernel))))))
  (x_Tok2
  (x_Tok2
  (x_Lok (x_st (I := xJ) (xr_lload_n (i := 0) (x_dk dl_37_0_ok 4 rfl))))
  (x_Lok (x_st (I := xJ) (xr_ldc2 (ix := 372) (z := 1073741823) (v := 1073741823) (x_dk dl_37_0_ok 5 rfl) (in_t9 (List.mem_of_getElem? (i := 102) rfl) rfl) (by decide)))))
  (x_Tok2
  (x_Lok (x_st (I := xJ) (xr_land (x_dk dl_37_0_ok 6 rfl))))
  (x_Tok2
  (x_Lok (x_st (I := xJ) (xr_lstore (i := 6) (x_dk dl_37_0_ok 7 rfl) (by decide +kernel))))
  (x_Lok (x_st (I := xJ) (xr_lload_n (i := 2) (x_dk dl_37_0_ok 8 rfl))))))))
  (x_Tok2
  (x_Tok2
  (x_Tok2
  (x_Lok (x_st (I := xJ) (xr_bipush (n := 30) (z := 30) (v := 30) (x_dk dl_37_0_ok 9 rfl) (by decide) (by decide))))
  (x_Lok (x_st (I := xJ) (xr_lshr (x_dk dl_37_0_ok 10 rfl)))))
  (x_Tok2
  (x_Lok (x_st (I := xJ) (xr_lstore (i := 8) (x_dk dl_37_0_ok 11 rfl) (by decide +kernel))))
  (x_Lok (x_st (I := xJ) (xr_lload_n (i := 2) (x_dk dl_37_0_ok 12 rfl))))))
  (x_Tok2
  (x_Tok2
  (x_Lok (x_st (I := xJ) (xr_ldc2 (ix := 372) (z := 1073741823) (v := 1073741823) (x_dk dl_37_0_ok 13 rfl) (in_t9 (List.mem_of_getElem? (i := 102) rfl) rfl) (by decide))))
  (x_Lok (x_st (I := xJ) (xr_land (x_dk dl_37_0_ok 14 rfl)))))
  (x_Tok2
  (x_Lok (x_st (I := xJ) (xr_lstore (i := 10) (x_dk dl_37_0_ok 15 rfl) (by decide +kernel))))
  (x_Tok2
  (x_Lok (x_st (I := xJ) (xr_lload (i := 4) (x_dk dl_37_0_ok 16 rfl))))
  (x_Lok (x_st (I := xJ) (xr_lload (i := 8) (x_dk dl_37_0_ok 17 rfl)))))))))
  (x_Tok2
  (x_Tok2
  (x_Tok2
  (x_Tok2
  (x_Lok (x_st (I := xJ) (xr_lmul (x_dk dl_37_0_ok 18 rfl))))
  (x_Lok (x_st (I := xJ) (xr_lload (i := 4) (x_dk dl_37_0_ok 19 rfl)))))
  (x_Tok2
  (x_Lok (x_st (I := xJ) (xr_lload (i := 10) (x_dk dl_37_0_ok 20 rfl))))
  (x_Lok (x_st (I := xJ) (xr_lmul (x_dk dl_37_0_ok 21 rfl))))))
  (x_Tok2
  (x_Tok2
  (x_Lok (x_st (I := xJ) (xr_lload (i := 6) (x_dk dl_37_0_ok 22 rfl))))
  (x_Lok (x_st (I := xJ) (xr_lload (i := 8) (x_dk dl_37_0_ok 23 rfl)))))
  (x_Tok2
  (x_Lok (x_st (I := xJ) (xr_lmul (x_dk dl_37_0_ok 24 rfl))))
  (x_Tok2
  (x_Lok (x_st (I := xJ) (xr_ladd (x_dk dl_37_0_ok 25 rfl))))
  (x_Lok (x_st (I := xJ) (xr_lload (i := 6) (x_dk dl_37_0_ok 26 rfl))))))))
  (x_Tok2
  (x_Tok2
  (x_Tok2
  (x_Lok (x_st (I := xJ) (xr_lload (i := 10) (x_dk dl_37_0_ok 27 rfl))))
  (x_Lok (x_st (I := xJ) (xr_lmul (x_dk dl_37_0_ok 28 rfl)))))
  (x_Tok2
  (x_Lok (x_st (I := xJ) (xr_bipush (n := 30) (z := 30) (v := 30) (x_dk dl_37_0_ok 29 rfl) (by decide) (by decide))))
  (x_Lok (x_st (I := xJ) (xr_lshr (x_dk dl_37_0_ok 30 rfl))))))
  (x_Tok2
  (x_Tok2
  (x_Lok (x_st (I := xJ) (xr_ladd (x_dk dl_37_0_ok 31 rfl))))
  (x_Lok (x_st (I := xJ) (xr_bipush (n := 30) (z := 30) (v := 30) (x_dk dl_37_0_ok 32 rfl) (by decide) (by decide)))))
  (x_Tok2
  (x_Lok (x_st (I := xJ) (xr_lshr (x_dk dl_37_0_ok 33 rfl))))
  (x_Tok2
  (x_Lok (x_st (I := xJ) (xr_ladd (x_dk dl_37_0_ok 34 rfl))))
  (x_Lok (x_rt (I := xJ) (k := 2) ⟨(x_dk dl_37_0_ok 35 rfl), rfl⟩))))))))
def tb_37 : Nat → xE := tb_37_0
theorem tb_37_ok (K : xKx) (hK : x_KP K) : ∀ pc, x_EOq cls K xJ mq_37 pc (tb_37 pc) := tb_37_0_ok K hK
def dl_38_0 : List (Nat × Instr × Nat) := [(0, .lload_n 0, 1), (1, .lload_n 0, 1), (2, .invokestatic 374, 3), (5, .lstore_n 3, 1), (6, .iload_n 2, 1), (7, .iconst 1, 1), (8, .if_icmp .ne 7, 3), (11, .lload_n 0, 1), (12, .goto 6, 3), (15, .ldc2_w 378, 3), (18, .lstore 5, 2), (20, .lconst 0, 1), (21, .lstore 7, 2), (23, .iload_n 2, 1), (24, .istore 9, 2), (26, .iconst 1, 1), (27, .istore 10, 2), (29, .lload 5, 2), (31, .lconst 0, 1), (32, .lcmp, 1), (33, .ifCond .le 58, 3), (36, .lload 7, 2), (38, .iload 10, 2), (40, .ifCond .eq 8, 3), (43, .lload 5, 2), (45, .goto 6, 3), (48, .lload 5, 2), (50, .lneg, 1), (51, .ladd, 1), (52, .lstore 7, 2), (54, .lload 5, 2), (56, .lload_n 3, 1), (57, .invokestatic 374, 3), (60, .iload 9, 2), (62, .iconst 1, 1), (63, .iadd, 1), (64, .iload 9, 2), (66, .iconst 2, 1), (67, .iadd, 1), (68, .imul, 1), (69, .i2l, 1), (70, .ldiv, 1), (71, .lstore 5, 2), (73, .iinc 9 2, 3), (76, .iload 10, 2), (78, .ifCond .ne 7, 3), (81, .iconst 1, 1), (82, .goto 4, 3), (85, .iconst 0, 1), (86, .istore 10, 2), (88, .goto (-59), 3), (91, .lload 7, 2), (93, .lreturn, 1)]
set_option maxRecDepth 20000 in
theorem dl_38_0_ok : dl_38_0.all (fun q => decide (decode prog_14_method_34_code q.1 = .ok (q.2.1, q.2.2))) = true := xa_g_ok (by decide +kernel)
def tb_38_0 : Nat → xE := (x_T 21 (x_T 7 (x_T 2 (x_T 0 (x_L 0 (0, xi_load 0 1 1, 0, 0)) (x_T 1 (x_L 1 (0, xi_load 0 1 2, 0, 0)) (x_L 2 (2, x_nof, 37, 2)))) (x_T 5 (x_L 5 (0, xi_stor 3 1 6, 0, 0)) (x_T 6 (x_L 6 (0, xi_load 2 0 7, 0, 0)) (x_L 7 (0, xi_push (0, 1, 1) 8, 0, 0))))) (x_T 12 (x_T 8 (x_L 8 (0, xi_if2 1 15 11, 0, 0)) (x_T 11 (x_L 11 (0, xi_load 0 1 12, 0, 0)) (x_L 12 (0, xi_goto 18, 0, 0)))) (x_T 18 (x_T 15 (x_L 15 (0, xi_push (4, 1152921504606846976, 1152921504606846976) 18, 0, 0)) (x_L 18 (0, xi_stor 5 1 20, 0, 0))) (x_T 20 (x_L 20 (0, xi_push (4, 0, 0) 21, 0, 0)) (x_L 21 (0, xi_stor 7 1 23, 0, 0)))))) (x_T 31 (x_T 26 (x_T 23 (x_L 23 (0, xi_load 2 0 24, 0, 0)) (x_T 24 (x_L 24 (0, xi_stor 9 0 26, 0, 0)) (x_L 26 (0, xi_push (0, 1, 1) 27, 0, 0)))) (x_T 27 (x_L 27 (0, xi_stor 10 0 29, 0, 0)) (x_T 29 (x_L 29 (0, xi_load 5 1 31, 0, 0)) (x_L 31 (0, xi_push (4, 0, 0) 32, 0, 0))))) (x_T 38 (x_T 32 (x_L 32 (0, xi_lif 5 91 36, 0, 0)) (x_T 36 (x_L 36 (0, xi_load 7 1 38, 0, 0)) (x_L 38 (0, xi_load 10 0 40, 0, 0)))) (x_T 43 (x_T 40 (x_L 40 (0, xi_if1 0 48 43, 0, 0)) (x_L 43 (0, xi_load 5 1 45, 0, 0))) (x_T 45 (x_L 45 (0, xi_goto 51, 0, 0)) (x_L 48 (0, xi_load 5 1 50, 0, 0)))))))
set_option maxRecDepth 20000 in
set_option maxHeartbeats 4000000 in
theorem tb_38_0_ok (K : xKx) (hK : x_KP K) : ∀ pc, x_EOq cls K xJ mq_38 pc (tb_38_0 pc) :=
  (x_Tok2
  (x_Tok2
  (x_Tok2
  (x_Tok2
  (x_Lok (x_st (I := xJ) (xr_lload_n (i := 0) (x_dk dl_38_0_ok 0 rfl))))
  (x_Tok2
  (x_Lok (x_st (I := xJ) (xr_lload_n (i := 0) (x_dk dl_38_0_ok 1 rfl))))
  (x_Lok (x_ca (I := xJ) (q' := mq_37) rfl (xr_callS (q' := mq_37) (ix := 374) (n := 2) (in_t9 (List.mem_of_getElem? (i := 101) rfl) rfl) good_w (in_t1 (List.mem_of_getElem? (i := 14) rfl) rfl) (in_t9 (List.mem_of_getElem? (i := 99) rfl) rfl) (in_t9 (List.mem_of_getElem? (i := 100) rfl) rfl) (by decide +kernel) (by decide +kernel) (x_dk dl_38_0_ok 2 rfl))))))
  (x_Tok2
  (x_Lok (x_st (I := xJ) (xr_lstore_n (i := 3) (x_dk dl_38_0_ok 3 rfl) (by decide +kernel))))
  (x_Tok2
  (x_Lok (x_st (I := xJ) (xr_iload_n (i := 2) (x_dk dl_38_0_ok 4 rfl))))
  (x_Lok (x_st (I := xJ) (xr_iconst (n := 1) (z := 1) (v := 1) (x_dk dl_38_0_ok 5 rfl) (by decide) (by decide)))))))
  (x_Tok2
  (x_Tok2
  (x_Lok (x_st (I := xJ) (xr_icmpne (off := 7) (tg := 15) (x_dk dl_38_0_ok 6 rfl) (by decide))))
  (x_Tok2
  (x_Lok (x_st (I := xJ) (xr_lload_n (i := 0) (x_dk dl_38_0_ok 7 rfl))))
  (x_Lok (x_st (I := xJ) (xr_goto (off := 6) (tg := 18) (x_dk dl_38_0_ok 8 rfl) (by decide))))))
  (x_Tok2
  (x_Tok2
  (x_Lok (x_st (I := xJ) (xr_ldc2 (ix := 378) (z := 1152921504606846976) (v := 1152921504606846976) (x_dk dl_38_0_ok 9 rfl) (in_t9 (List.mem_of_getElem? (i := 103) rfl) rfl) (by decide))))
  (x_Lok (x_st (I := xJ) (xr_lstore (i := 5) (x_dk dl_38_0_ok 10 rfl) (by decide +kernel)))))
  (x_Tok2
  (x_Lok (x_st (I := xJ) (xr_lconst (n := 0) (z := 0) (v := 0) (x_dk dl_38_0_ok 11 rfl) (by decide) (by decide))))
  (x_Lok (x_st (I := xJ) (xr_lstore (i := 7) (x_dk dl_38_0_ok 12 rfl) (by decide +kernel))))))))
  (x_Tok2
  (x_Tok2
  (x_Tok2
  (x_Lok (x_st (I := xJ) (xr_iload_n (i := 2) (x_dk dl_38_0_ok 13 rfl))))
  (x_Tok2
  (x_Lok (x_st (I := xJ) (xr_istore (i := 9) (x_dk dl_38_0_ok 14 rfl) (by decide +kernel))))
  (x_Lok (x_st (I := xJ) (xr_iconst (n := 1) (z := 1) (v := 1) (x_dk dl_38_0_ok 15 rfl) (by decide) (by decide))))))
  (x_Tok2
  (x_Lok (x_st (I := xJ) (xr_istore (i := 10) (x_dk dl_38_0_ok 16 rfl) (by decide +kernel))))
  (x_Tok2
  (x_Lok (x_st (I := xJ) (xr_lload (i := 5) (x_dk dl_38_0_ok 17 rfl))))
  (x_Lok (x_st (I := xJ) (xr_lconst (n := 0) (z := 0) (v := 0) (x_dk dl_38_0_ok 18 rfl) (by decide) (by decide)))))))
  (x_Tok2
  (x_Tok2
  (x_Lok (x_st (I := xJ) (xr_lifle (off := 58) (tg := 91) (x_dk dl_38_0_ok 19 rfl) (x_dk dl_38_0_ok 20 rfl) (by decide))))
  (x_Tok2
  (x_Lok (x_st (I := xJ) (xr_lload (i := 7) (x_dk dl_38_0_ok 21 rfl))))
  (x_Lok (x_st (I := xJ) (xr_iload (i := 10) (x_dk dl_38_0_ok 22 rfl))))))
  (x_Tok2
  (x_Tok2
  (x_Lok (x_st (I := xJ) (xr_ifeq (off := 8) (tg := 48) (x_dk dl_38_0_ok 23 rfl) (by decide))))
  (x_Lok (x_st (I := xJ) (xr_lload (i := 5) (x_dk dl_38_0_ok 24 rfl)))))
  (x_Tok2
  (x_Lok (x_st (I := xJ) (xr_goto (off := 6) (tg := 51) (x_dk dl_38_0_ok 25 rfl) (by decide))))
  (x_Lok (x_st (I := xJ) (xr_lload (i := 5) (x_dk dl_38_0_ok 26 rfl)))))))))
def tb_38_26 : Nat → xE := (x_T 68 (x_T 57 (x_T 52 (x_T 50 (x_L 50 (0, xi_unL xF_negL 51, 0, 0)) (x_T 51 (x_L 51 (0, xi_binL xF_addL 52, 0, 0)) (x_L 52 (0, xi_stor 7 1 54, 0, 0)))) (x_T 54 (x_L 54 (0, xi_load 5 1 56, 0, 0)) (x_T 56 (x_L 56 (0, xi_load 3 1 57, 0, 0)) (x_L 57 (2, x_nof, 37, 2))))) (x_T 63 (x_T 60 (x_L 60 (0, xi_load 9 0 62, 0, 0)) (x_T 62 (x_L 62 (0, xi_push (0, 1, 1) 63, 0, 0)) (x_L 63 (0, xi_bin xF_add 64, 0, 0)))) (x_T 66 (x_T 64 (x_L 64 (0, xi_load 9 0 66, 0, 0)) (x_L 66 (0, xi_push (0, 2, 2) 67, 0, 0))) (x_T 67 (x_L 67 (0, xi_bin xF_add 68, 0, 0)) (x_L 68 (0, xi_bin xF_mul 69, 0, 0)))))) (x_T 78 (x_T 71 (x_T 69 (x_L 69 (0, xi_i2l 70, 0, 0)) (x_T 70 (x_L 70 (0, xi_binL xF_divL 71, 0, 0)) (x_L 71 (0, xi_stor 5 1 73, 0, 0)))) (x_T 73 (x_L 73 (0, xi_inc 9 2 76, 0, 0)) (x_T 76 (x_L 76 (0, xi_load 10 0 78, 0, 0)) (x_L 78 (0, xi_if1 1 85 81, 0, 0))))) (x_T 85 (x_T 81 (x_L 81 (0, xi_push (0, 1, 1) 82, 0, 0)) (x_T 82 (x_L 82 (0, xi_goto 86, 0, 0)) (x_L 85 (0, xi_push (0, 0, 0) 86, 0, 0)))) (x_T 88 (x_T 86 (x_L 86 (0, xi_stor 10 0 88, 0, 0)) (x_L 88 (0, xi_goto 29, 0, 0))) (x_T 91 (x_L 91 (0, xi_load 7 1 93, 0, 0)) (x_L 93 (1, x_nof, 2, 0)))))))
set_option maxRecDepth 20000 in
set_option maxHeartbeats 4000000 in
theorem tb_38_26_ok (K : xKx) (hK : x_KP K) : ∀ pc, x_EOq cls K xJ mq_38 pc (tb_38_26 pc) :=
  (x_Tok2
  (x_Tok2
  (x_Tok2
  (x_Tok2
  (x_Lok (x_st (I := xJ) (xr_lneg (x_dk dl_38_0_ok 27 rfl))))
  (x_Tok2
  (x_Lok (x_st (I := xJ) (xr_ladd (x_dk dl_38_0_ok 28 rfl))))
  (x_Lok (x_st (I := xJ) (xr_lstore (i := 7) (x_dk dl_38_0_ok 29 rfl) (by decide +kernel))))))
  (x_Tok2
  (x_Lok (x_st (I := xJ) (xr_lload (i := 5) (x_dk dl_38_0_ok 30 rfl))))
  (x_Tok2
  (x_Lok (x_st (I := xJ) (xr_lload_n (i := 3) (x_dk dl_38_0_ok 31 rfl))))
  (x_Lok (x_ca (I := xJ) (q' := mq_37) rfl (xr_callS (q' := mq_37) (ix := 374) (n := 2) (in_t9 (List.mem_of_getElem? (i := 101) rfl) rfl) good_w (in_t1 (List.mem_of_getElem? (i := 14) rfl) rfl) (in_t9 (List.mem_of_getElem? (i := 99) rfl) rfl) (in_t9 (List.mem_of_getElem? (i := 100) rfl) rfl) (by decide +kernel) (by decide +kernel) (x_dk dl_38_0_ok 32 rfl)))))))
  (x_Tok2
  (x_Tok2
  (x_Lok (x_st (I := xJ) (xr_iload (i := 9) (x_dk dl_38_0_ok 33 rfl))))
  (x_Tok2
  (x_Lok (x_st (I := xJ) (xr_iconst (n := 1) (z := 1) (v := 1) (x_dk dl_38_0_ok 34 rfl) (by decide) (by decide))))
  (x_Lok (x_st (I := xJ) (xr_iadd (x_dk dl_38_0_ok 35 rfl))))))
  (x_Tok2
  (x_Tok2
  (x_Lok (x_st (I := xJ) (xr_iload (i := 9) (x_dk dl_38_0_ok 36 rfl))))
  (x_Lok (x_st (I := xJ) (xr_iconst (n := 2) (z := 2) (v := 2) (x_dk dl_38_0_ok 37 rfl) (by decide) (by decide)))))
  (x_Tok2
  (x_Lok (x_st (I := xJ) (xr_iadd (x_dk dl_38_0_ok 38 rfl))))
  (x_Lok (x_st (I := xJ) (xr_imul (x_dk dl_38_0_ok 39 rfl))))))))
  (x_Tok2
  (x_Tok2
  (x_Tok2
  (x_Lok (x_st (I := xJ) (xr_i2l (x_dk dl_38_0_ok 40 rfl))))
  (x_Tok2
  (x_Lok (x_st (I := xJ) (xr_ldiv (x_dk dl_38_0_ok 41 rfl))))
  (x_Lok (x_st (I := xJ) (xr_lstore (i := 5) (x_dk dl_38_0_ok 42 rfl) (by decide +kernel))))))
  (x_Tok2
  (x_Lok (x_st (I := xJ) (xr_iinc (i := 9) (n := 2) (x_dk dl_38_0_ok 43 rfl) (by decide +kernel) (by decide))))
  (x_Tok2
  (x_Lok (x_st (I := xJ) (xr_iload (i := 10) (x_dk dl_38_0_ok 44 rfl))))
  (x_Lok (x_st (I := xJ) (xr_ifne (off := 7) (tg := 85) (x_dk dl_38_0_ok 45 rfl) (by decide)))))))
  (x_Tok2
  (x_Tok2
  (x_Lok (x_st (I := xJ) (xr_iconst (n := 1) (z := 1) (v := 1) (x_dk dl_38_0_ok 46 rfl) (by decide) (by decide))))
  (x_Tok2
  (x_Lok (x_st (I := xJ) (xr_goto (off := 4) (tg := 86) (x_dk dl_38_0_ok 47 rfl) (by decide))))
  (x_Lok (x_st (I := xJ) (xr_iconst (n := 0) (z := 0) (v := 0) (x_dk dl_38_0_ok 48 rfl) (by decide) (by decide))))))
  (x_Tok2
  (x_Tok2
  (x_Lok (x_st (I := xJ) (xr_istore (i := 10) (x_dk dl_38_0_ok 49 rfl) (by decide +kernel))))
  (x_Lok (x_st (I := xJ) (xr_goto (off := (-59)) (tg := 29) (x_dk dl_38_0_ok 50 rfl) (by decide)))))
  (x_Tok2
  (x_Lok (x_st (I := xJ) (xr_lload (i := 7) (x_dk dl_38_0_ok 51 rfl))))
  (x_Lok (x_rt (I := xJ) (k := 2) ⟨(x_dk dl_38_0_ok 52 rfl), rfl⟩)))))))
def tb_38 : Nat → xE := (x_T 48 tb_38_0 tb_38_26)
theorem tb_38_ok (K : xKx) (hK : x_KP K) : ∀ pc, x_EOq cls K xJ mq_38 pc (tb_38 pc) := (x_Tok2 (tb_38_0_ok K hK) (tb_38_26_ok K hK))
def dl_39_0 : List (Nat × Instr × Nat) := [(0, .iconst 0, 1), (1, .istore_n 1, 1), (2, .iload_n 1, 1), (3, .sipush 512, 3), (6, .if_icmp .gt 68, 3), (9, .ldc2_w 380, 3), (12, .iload_n 1, 1), (13, .i2l, 1), (14, .lmul, 1), (15, .ldc2_w 382, 3), (18, .iload_n 1, 1), (19, .i2l, 1), (20, .lmul, 1), (21, .bipush 11, 2), (23, .lshr, 1), (24, .ladd, 1), (25, .lstore_n 2, 1), (26, .aload_n 0, 1), (27, .getfield 146, 3), (30, .iload_n 1, 1), (31, .lload_n 2, 1), (32, .iconst 1, 1), (33, .invokestatic 384, 3), (36, .ldc2_w 388, 3), (39, .ladd, 1), (40, .bipush 40, 2), (42, .lshr, 1), (43, .l2i, 1), (44, .iastore, 1), (45, .aload_n 0, 1), (46, .getfield 146, 3), (49, .sipush 1024, 3), (52, .iload_n 1, 1), (53, .isub, 1), (54, .lload_n 2, 1), (55, .iconst 0, 1), (56, .invokestatic 384, 3), (59, .ldc2_w 388, 3), (62, .ladd, 1), (63, .bipush 40, 2), (65, .lshr, 1), (66, .l2i, 1), (67, .iastore, 1), (68, .iinc 1 1, 3), (71, .goto (-69), 3), (74, .return_, 1)]
set_option maxRecDepth 20000 in
theorem dl_39_0_ok : dl_39_0.all (fun q => decide (decode prog_14_method_35_code q.1 = .ok (q.2.1, q.2.2))) = true := xa_g_ok (by decide +kernel)
def tb_39_0 : Nat → xE := (x_T 18 (x_T 6 (x_T 1 (x_T 0 (x_L 0 (0, xi_push (0, 0, 0) 1, 0, 0)) (x_L 1 (0, xi_stor 1 0 2, 0, 0))) (x_T 2 (x_L 2 (3, xi_load 1 0 3, 3, 0)) (x_T 3 (x_L 3 (0, xi_push (0, 512, 512) 6, 0, 0)) (x_L 6 (0, xi_if2 4 74 9, 0, 0))))) (x_T 13 (x_T 9 (x_L 9 (0, xi_push (4, 1768559438007110, 1768559438007110) 12, 0, 0)) (x_T 12 (x_L 12 (0, xi_load 1 0 13, 0, 0)) (x_L 13 (0, xi_i2l 14, 0, 0)))) (x_T 14 (x_L 14 (0, xi_binL xF_mulL 15, 0, 0)) (x_T 15 (x_L 15 (0, xi_push (4, 141, 141) 18, 0, 0)) (x_L 18 (0, xi_load 1 0 19, 0, 0)))))) (x_T 25 (x_T 21 (x_T 19 (x_L 19 (0, xi_i2l 20, 0, 0)) (x_T 20 (x_L 20 (0, xi_binL xF_mulL 21, 0, 0)) (x_L 21 (0, xi_push (0, 11, 11) 23, 0, 0)))) (x_T 23 (x_L 23 (0, xi_shL xF_shrL 24, 0, 0)) (x_T 24 (x_L 24 (0, xi_binL xF_addL 25, 0, 0)) (x_L 25 (0, xi_stor 2 1 26, 0, 0))))) (x_T 30 (x_T 26 (x_L 26 (0, xi_load 0 2 27, 0, 0)) (x_T 27 (x_L 27 (0, xi_getf 12 54 30, 0, 0)) (x_L 30 (0, xi_load 1 0 31, 0, 0)))) (x_T 31 (x_L 31 (0, xi_load 2 1 32, 0, 0)) (x_T 32 (x_L 32 (0, xi_push (0, 1, 1) 33, 0, 0)) (x_L 33 (4, x_nof, 38, 2)))))))
set_option maxRecDepth 20000 in
set_option maxHeartbeats 4000000 in
theorem tb_39_0_ok (K : xKx) (hK : x_KP K) : ∀ pc, x_EOq cls K xJ mq_39 pc (tb_39_0 pc) :=
  (x_Tok2
  (x_Tok2
  (x_Tok2
  (x_Tok2
  (x_Lok (x_st (I := xJ) (xr_iconst (n := 0) (z := 0) (v := 0) (x_dk dl_39_0_ok 0 rfl) (by decide) (by decide))))
  (x_Lok (x_st (I := xJ) (xr_istore_n (i := 1) (x_dk dl_39_0_ok 1 rfl) (by decide +kernel)))))
  (x_Tok2
  (x_Lok (x_lo (I := xJ) (L := 3) (xr_iload_n (i := 1) (x_dk dl_39_0_ok 2 rfl))))
  (x_Tok2
  (x_Lok (x_st (I := xJ) (xr_sipush (n := 512) (z := 512) (v := 512) (x_dk dl_39_0_ok 3 rfl) (by decide) (by decide))))
  (x_Lok (x_st (I := xJ) (xr_icmpgt (off := 68) (tg := 74) (x_dk dl_39_0_ok 4 rfl) (by decide)))))))
  (x_Tok2
  (x_Tok2
  (x_Lok (x_st (I := xJ) (xr_ldc2 (ix := 380) (z := 1768559438007110) (v := 1768559438007110) (x_dk dl_39_0_ok 5 rfl) (in_t9 (List.mem_of_getElem? (i := 94) rfl) rfl) (by decide))))
  (x_Tok2
  (x_Lok (x_st (I := xJ) (xr_iload_n (i := 1) (x_dk dl_39_0_ok 6 rfl))))
  (x_Lok (x_st (I := xJ) (xr_i2l (x_dk dl_39_0_ok 7 rfl))))))
  (x_Tok2
  (x_Lok (x_st (I := xJ) (xr_lmul (x_dk dl_39_0_ok 8 rfl))))
  (x_Tok2
  (x_Lok (x_st (I := xJ) (xr_ldc2 (ix := 382) (z := 141) (v := 141) (x_dk dl_39_0_ok 9 rfl) (in_t9 (List.mem_of_getElem? (i := 95) rfl) rfl) (by decide))))
  (x_Lok (x_st (I := xJ) (xr_iload_n (i := 1) (x_dk dl_39_0_ok 10 rfl))))))))
  (x_Tok2
  (x_Tok2
  (x_Tok2
  (x_Lok (x_st (I := xJ) (xr_i2l (x_dk dl_39_0_ok 11 rfl))))
  (x_Tok2
  (x_Lok (x_st (I := xJ) (xr_lmul (x_dk dl_39_0_ok 12 rfl))))
  (x_Lok (x_st (I := xJ) (xr_bipush (n := 11) (z := 11) (v := 11) (x_dk dl_39_0_ok 13 rfl) (by decide) (by decide))))))
  (x_Tok2
  (x_Lok (x_st (I := xJ) (xr_lshr (x_dk dl_39_0_ok 14 rfl))))
  (x_Tok2
  (x_Lok (x_st (I := xJ) (xr_ladd (x_dk dl_39_0_ok 15 rfl))))
  (x_Lok (x_st (I := xJ) (xr_lstore_n (i := 2) (x_dk dl_39_0_ok 16 rfl) (by decide +kernel)))))))
  (x_Tok2
  (x_Tok2
  (x_Lok (x_st (I := xJ) (xr_aload_n (i := 0) (x_dk dl_39_0_ok 17 rfl))))
  (x_Tok2
  (x_Lok (x_st (I := xJ) (xr_getf (ci := 12) (k := 54) (ix := 146) (N := 119) (C := RX12) (T := TX12) rfl in_X12 (by decide) (in_t9 (List.mem_of_getElem? (i := 169) rfl) rfl) (x_dk dl_39_0_ok 18 rfl))))
  (x_Lok (x_st (I := xJ) (xr_iload_n (i := 1) (x_dk dl_39_0_ok 19 rfl))))))
  (x_Tok2
  (x_Lok (x_st (I := xJ) (xr_lload_n (i := 2) (x_dk dl_39_0_ok 20 rfl))))
  (x_Tok2
  (x_Lok (x_st (I := xJ) (xr_iconst (n := 1) (z := 1) (v := 1) (x_dk dl_39_0_ok 21 rfl) (by decide) (by decide))))
  (x_Lok (x_cp (I := xJ) (q' := mq_38) rfl (xr_callS (q' := mq_38) (ix := 384) (n := 2) (in_t9 (List.mem_of_getElem? (i := 98) rfl) rfl) good_w (in_t1 (List.mem_of_getElem? (i := 14) rfl) rfl) (in_t9 (List.mem_of_getElem? (i := 96) rfl) rfl) (in_t9 (List.mem_of_getElem? (i := 97) rfl) rfl) (by decide +kernel) (by decide +kernel) (x_dk dl_39_0_ok 22 rfl)))))))))
def tb_39_23 : Nat → xE := (x_T 53 (x_T 43 (x_T 39 (x_T 36 (x_L 36 (0, xi_push (4, 549755813888, 549755813888) 39, 0, 0)) (x_L 39 (0, xi_binL xF_addL 40, 0, 0))) (x_T 40 (x_L 40 (0, xi_push (0, 40, 40) 42, 0, 0)) (x_T 42 (x_L 42 (0, xi_shL xF_shrL 43, 0, 0)) (x_L 43 (0, xi_unL xF_l2i 44, 0, 0))))) (x_T 46 (x_T 44 (x_L 44 (0, xi_ast false 45, 0, 0)) (x_T 45 (x_L 45 (0, xi_load 0 2 46, 0, 0)) (x_L 46 (0, xi_getf 12 54 49, 0, 0)))) (x_T 49 (x_L 49 (0, xi_push (0, 1024, 1024) 52, 0, 0)) (x_T 52 (x_L 52 (0, xi_load 1 0 53, 0, 0)) (x_L 53 (0, xi_bin xF_sub 54, 0, 0)))))) (x_T 63 (x_T 56 (x_T 54 (x_L 54 (0, xi_load 2 1 55, 0, 0)) (x_T 55 (x_L 55 (0, xi_push (0, 0, 0) 56, 0, 0)) (x_L 56 (4, x_nof, 38, 2)))) (x_T 59 (x_L 59 (0, xi_push (4, 549755813888, 549755813888) 62, 0, 0)) (x_T 62 (x_L 62 (0, xi_binL xF_addL 63, 0, 0)) (x_L 63 (0, xi_push (0, 40, 40) 65, 0, 0))))) (x_T 67 (x_T 65 (x_L 65 (0, xi_shL xF_shrL 66, 0, 0)) (x_T 66 (x_L 66 (0, xi_unL xF_l2i 67, 0, 0)) (x_L 67 (0, xi_ast false 68, 0, 0)))) (x_T 68 (x_L 68 (0, xi_incT 1 71, 0, 0)) (x_T 71 (x_L 71 (0, xi_goto 2, 0, 0)) (x_L 74 (1, x_nof, 0, 0)))))))
set_option maxRecDepth 20000 in
set_option maxHeartbeats 4000000 in
theorem tb_39_23_ok (K : xKx) (hK : x_KP K) : ∀ pc, x_EOq cls K xJ mq_39 pc (tb_39_23 pc) :=
  (x_Tok2
  (x_Tok2
  (x_Tok2
  (x_Tok2
  (x_Lok (x_st (I := xJ) (xr_ldc2 (ix := 388) (z := 549755813888) (v := 549755813888) (x_dk dl_39_0_ok 23 rfl) (in_t9 (List.mem_of_getElem? (i := 104) rfl) rfl) (by decide))))
  (x_Lok (x_st (I := xJ) (xr_ladd (x_dk dl_39_0_ok 24 rfl)))))
  (x_Tok2
  (x_Lok (x_st (I := xJ) (xr_bipush (n := 40) (z := 40) (v := 40) (x_dk dl_39_0_ok 25 rfl) (by decide) (by decide))))
  (x_Tok2
  (x_Lok (x_st (I := xJ) (xr_lshr (x_dk dl_39_0_ok 26 rfl))))
  (x_Lok (x_st (I := xJ) (xr_l2i (x_dk dl_39_0_ok 27 rfl)))))))
  (x_Tok2
  (x_Tok2
  (x_Lok (x_st (I := xJ) (xr_iastore (x_dk dl_39_0_ok 28 rfl))))
  (x_Tok2
  (x_Lok (x_st (I := xJ) (xr_aload_n (i := 0) (x_dk dl_39_0_ok 29 rfl))))
  (x_Lok (x_st (I := xJ) (xr_getf (ci := 12) (k := 54) (ix := 146) (N := 119) (C := RX12) (T := TX12) rfl in_X12 (by decide) (in_t9 (List.mem_of_getElem? (i := 169) rfl) rfl) (x_dk dl_39_0_ok 30 rfl))))))
  (x_Tok2
  (x_Lok (x_st (I := xJ) (xr_sipush (n := 1024) (z := 1024) (v := 1024) (x_dk dl_39_0_ok 31 rfl) (by decide) (by decide))))
  (x_Tok2
  (x_Lok (x_st (I := xJ) (xr_iload_n (i := 1) (x_dk dl_39_0_ok 32 rfl))))
  (x_Lok (x_st (I := xJ) (xr_isub (x_dk dl_39_0_ok 33 rfl))))))))
  (x_Tok2
  (x_Tok2
  (x_Tok2
  (x_Lok (x_st (I := xJ) (xr_lload_n (i := 2) (x_dk dl_39_0_ok 34 rfl))))
  (x_Tok2
  (x_Lok (x_st (I := xJ) (xr_iconst (n := 0) (z := 0) (v := 0) (x_dk dl_39_0_ok 35 rfl) (by decide) (by decide))))
  (x_Lok (x_cp (I := xJ) (q' := mq_38) rfl (xr_callS (q' := mq_38) (ix := 384) (n := 2) (in_t9 (List.mem_of_getElem? (i := 98) rfl) rfl) good_w (in_t1 (List.mem_of_getElem? (i := 14) rfl) rfl) (in_t9 (List.mem_of_getElem? (i := 96) rfl) rfl) (in_t9 (List.mem_of_getElem? (i := 97) rfl) rfl) (by decide +kernel) (by decide +kernel) (x_dk dl_39_0_ok 36 rfl))))))
  (x_Tok2
  (x_Lok (x_st (I := xJ) (xr_ldc2 (ix := 388) (z := 549755813888) (v := 549755813888) (x_dk dl_39_0_ok 37 rfl) (in_t9 (List.mem_of_getElem? (i := 104) rfl) rfl) (by decide))))
  (x_Tok2
  (x_Lok (x_st (I := xJ) (xr_ladd (x_dk dl_39_0_ok 38 rfl))))
  (x_Lok (x_st (I := xJ) (xr_bipush (n := 40) (z := 40) (v := 40) (x_dk dl_39_0_ok 39 rfl) (by decide) (by decide)))))))
  (x_Tok2
  (x_Tok2
  (x_Lok (x_st (I := xJ) (xr_lshr (x_dk dl_39_0_ok 40 rfl))))
  (x_Tok2
  (x_Lok (x_st (I := xJ) (xr_l2i (x_dk dl_39_0_ok 41 rfl))))
  (x_Lok (x_st (I := xJ) (xr_iastore (x_dk dl_39_0_ok 42 rfl))))))
  (x_Tok2
  (x_Lok (x_st (I := xJ) (xr_iincT (i := 1) (x_hev hK) (x_dk dl_39_0_ok 43 rfl) (by decide +kernel))))
  (x_Tok2
  (x_Lok (x_st (I := xJ) (xr_goto (off := (-69)) (tg := 2) (x_dk dl_39_0_ok 44 rfl) (by decide))))
  (x_Lok (x_rt (I := xJ) (k := 0) ⟨(x_dk dl_39_0_ok 45 rfl), rfl⟩)))))))
def tb_39 : Nat → xE := (x_T 33 tb_39_0 tb_39_23)
theorem tb_39_ok (K : xKx) (hK : x_KP K) : ∀ pc, x_EOq cls K xJ mq_39 pc (tb_39 pc) := (x_Tok2 (tb_39_0_ok K hK) (tb_39_23_ok K hK))
def dl_40_0 : List (Nat × Instr × Nat) := [(0, .iconst 0, 1), (1, .istore_n 2, 1), (2, .aload_n 0, 1), (3, .arraylength, 1), (4, .istore_n 3, 1), (5, .iload_n 2, 1), (6, .iload_n 3, 1), (7, .if_icmp .ge 13, 3), (10, .aload_n 0, 1), (11, .iload_n 2, 1), (12, .iload_n 1, 1), (13, .iastore, 1), (14, .iinc 2 1, 3), (17, .goto (-12), 3), (20, .return_, 1)]
set_option maxRecDepth 20000 in
theorem dl_40_0_ok : dl_40_0.all (fun q => decide (decode prog_20_method_103_code q.1 = .ok (q.2.1, q.2.2))) = true := xa_g_ok (by decide +kernel)
def tb_40_0 : Nat → xE := (x_T 6 (x_T 2 (x_T 0 (x_L 0 (0, xi_push (0, 0, 0) 1, 0, 0)) (x_T 1 (x_L 1 (0, xi_stor 2 0 2, 0, 0)) (x_L 2 (0, xi_load 0 2 3, 0, 0)))) (x_T 4 (x_T 3 (x_L 3 (0, xi_alen 4, 0, 0)) (x_L 4 (0, xi_stor 3 0 5, 0, 0))) (x_T 5 (x_L 5 (0, xi_load 2 0 6, 0, 0)) (x_L 6 (0, xi_load 3 0 7, 0, 0))))) (x_T 12 (x_T 10 (x_T 7 (x_L 7 (0, xi_if2 3 20 10, 0, 0)) (x_L 10 (0, xi_load 0 2 11, 0, 0))) (x_T 11 (x_L 11 (0, xi_load 2 0 12, 0, 0)) (x_L 12 (0, xi_load 1 0 13, 0, 0)))) (x_T 14 (x_T 13 (x_L 13 (0, xi_ast false 14, 0, 0)) (x_L 14 (0, xi_inc 2 1 17, 0, 0))) (x_T 17 (x_L 17 (0, xi_goto 5, 0, 0)) (x_L 20 (1, x_nof, 0, 0))))))
set_option maxRecDepth 20000 in
set_option maxHeartbeats 4000000 in
theorem tb_40_0_ok (K : xKx) (hK : x_KP K) : ∀ pc, x_EOq cls K xJ mq_40 pc (tb_40_0 pc) :=
  (x_Tok2
  (x_Tok2
  (x_Tok2
  (x_Lok (x_st (I := xJ) (xr_iconst (n := 0) (z := 0) (v := 0) (x_dk dl_40_0_ok 0 rfl) (by decide) (by decide))))
  (x_Tok2
  (x_Lok (x_st (I := xJ) (xr_istore_n (i := 2) (x_dk dl_40_0_ok 1 rfl) (by decide +kernel))))
  (x_Lok (x_st (I := xJ) (xr_aload_n (i := 0) (x_dk dl_40_0_ok 2 rfl))))))
  (x_Tok2
  (x_Tok2
  (x_Lok (x_st (I := xJ) (xr_alen (x_dk dl_40_0_ok 3 rfl))))
  (x_Lok (x_st (I := xJ) (xr_istore_n (i := 3) (x_dk dl_40_0_ok 4 rfl) (by decide +kernel)))))
  (x_Tok2
  (x_Lok (x_st (I := xJ) (xr_iload_n (i := 2) (x_dk dl_40_0_ok 5 rfl))))
  (x_Lok (x_st (I := xJ) (xr_iload_n (i := 3) (x_dk dl_40_0_ok 6 rfl)))))))
  (x_Tok2
  (x_Tok2
  (x_Tok2
  (x_Lok (x_st (I := xJ) (xr_icmpge (off := 13) (tg := 20) (x_dk dl_40_0_ok 7 rfl) (by decide))))
  (x_Lok (x_st (I := xJ) (xr_aload_n (i := 0) (x_dk dl_40_0_ok 8 rfl)))))
  (x_Tok2
  (x_Lok (x_st (I := xJ) (xr_iload_n (i := 2) (x_dk dl_40_0_ok 9 rfl))))
  (x_Lok (x_st (I := xJ) (xr_iload_n (i := 1) (x_dk dl_40_0_ok 10 rfl))))))
  (x_Tok2
  (x_Tok2
  (x_Lok (x_st (I := xJ) (xr_iastore (x_dk dl_40_0_ok 11 rfl))))
  (x_Lok (x_st (I := xJ) (xr_iinc (i := 2) (n := 1) (x_dk dl_40_0_ok 12 rfl) (by decide +kernel) (by decide)))))
  (x_Tok2
  (x_Lok (x_st (I := xJ) (xr_goto (off := (-12)) (tg := 5) (x_dk dl_40_0_ok 13 rfl) (by decide))))
  (x_Lok (x_rt (I := xJ) (k := 0) ⟨(x_dk dl_40_0_ok 14 rfl), rfl⟩))))))
def tb_40 : Nat → xE := tb_40_0
theorem tb_40_ok (K : xKx) (hK : x_KP K) : ∀ pc, x_EOq cls K xJ mq_40 pc (tb_40 pc) := tb_40_0_ok K hK
def dl_0_0 : List (Nat × Instr × Nat) := [(0, .new 7, 3), (3, .dup, 1), (4, .invokespecial 9, 3), (7, .astore_n 1, 1), (8, .new 10, 3), (11, .dup, 1), (12, .invokespecial 12, 3), (15, .astore_n 2, 1), (16, .iconst 0, 1), (17, .istore_n 3, 1)]
set_option maxRecDepth 20000 in
theorem dl_0_0_ok : dl_0_0.all (fun q => decide (decode code q.1 = .ok (q.2.1, q.2.2))) = true := xa_g_ok (by decide +kernel)
def tb_0_0 : Nat → xE := (x_T 8 (x_T 3 (x_T 0 (x_L 0 (0, xi_new (x_nc 11 ks_X11) (xm_c mq_0) (xm_s mq_0) 3, 0, 0)) (x_L 3 (0, xi_stk xf_dup 4, 0, 0))) (x_T 4 (x_L 4 (2, x_nof, 30, 1)) (x_T 7 (x_L 7 (0, xi_stor 1 2 8, 0, 0)) (x_L 8 (0, xi_new (x_nc 12 ks_X12) (xm_c mq_0) (xm_s mq_0) 11, 0, 0))))) (x_T 12 (x_T 11 (x_L 11 (0, xi_stk xf_dup 12, 0, 0)) (x_L 12 (2, x_nof, 33, 1))) (x_T 15 (x_L 15 (0, xi_stor 2 2 16, 0, 0)) (x_T 16 (x_L 16 (0, xi_push (0, 0, 0) 17, 0, 0)) (x_L 17 (0, xi_stor 3 0 18, 0, 0))))))
set_option maxRecDepth 20000 in
set_option maxHeartbeats 4000000 in
theorem tb_0_0_ok (K : xKx) (hK : x_KP K) : ∀ pc, x_EOq cls K xJ mq_0 pc (tb_0_0 pc) :=
  (x_Tok2
  (x_Tok2
  (x_Tok2
  (x_Lok (x_st (I := xJ) (xr_new (ci := 11) (ix := 7) (N := 15) (C := RX11) (T := TX11) (ty0 := tyX11) (ks := ks_X11) rfl in_X11 tyX11_ok (in_t1 (List.mem_of_getElem? (i := 21) rfl) rfl) (in_t1 (List.mem_of_getElem? (i := 22) rfl) rfl) (in_t1 (List.mem_of_getElem? (i := 1) rfl) rfl) rfl df_X11 (x_dk dl_0_0_ok 0 rfl))))
  (x_Lok (x_st (I := xJ) (xr_dup (x_dk dl_0_0_ok 1 rfl)))))
  (x_Tok2
  (x_Lok (x_ca (I := xJ) (q' := mq_30) rfl (xr_callI (q' := mq_30) (ix := 9) (n := 0) (in_t1 (List.mem_of_getElem? (i := 25) rfl) rfl) good_w (in_t1 (List.mem_of_getElem? (i := 1) rfl) rfl) (in_t1 (List.mem_of_getElem? (i := 23) rfl) rfl) (in_t1 (List.mem_of_getElem? (i := 24) rfl) rfl) rfl rfl (by decide +kernel) (by decide +kernel) (by decide +kernel) (x_dk dl_0_0_ok 2 rfl))))
  (x_Tok2
  (x_Lok (x_st (I := xJ) (xr_astore_n (i := 1) (x_dk dl_0_0_ok 3 rfl) (by decide +kernel))))
  (x_Lok (x_st (I := xJ) (xr_new (ci := 12) (ix := 10) (N := 119) (C := RX12) (T := TX12) (ty0 := tyX12) (ks := ks_X12) rfl in_X12 tyX12_ok (in_t9 (List.mem_of_getElem? (i := 80) rfl) rfl) (in_t9 (List.mem_of_getElem? (i := 81) rfl) rfl) (in_t1 (List.mem_of_getElem? (i := 14) rfl) rfl) rfl df_X12 (x_dk dl_0_0_ok 4 rfl)))))))
  (x_Tok2
  (x_Tok2
  (x_Lok (x_st (I := xJ) (xr_dup (x_dk dl_0_0_ok 5 rfl))))
  (x_Lok (x_ca (I := xJ) (q' := mq_33) rfl (xr_callI (q' := mq_33) (ix := 12) (n := 0) (in_t9 (List.mem_of_getElem? (i := 84) rfl) rfl) good_w (in_t1 (List.mem_of_getElem? (i := 14) rfl) rfl) (in_t9 (List.mem_of_getElem? (i := 82) rfl) rfl) (in_t9 (List.mem_of_getElem? (i := 83) rfl) rfl) rfl rfl (by decide +kernel) (by decide +kernel) (by decide +kernel) (x_dk dl_0_0_ok 6 rfl)))))
  (x_Tok2
  (x_Lok (x_st (I := xJ) (xr_astore_n (i := 2) (x_dk dl_0_0_ok 7 rfl) (by decide +kernel))))
  (x_Tok2
  (x_Lok (x_st (I := xJ) (xr_iconst (n := 0) (z := 0) (v := 0) (x_dk dl_0_0_ok 8 rfl) (by decide) (by decide))))
  (x_Lok (x_st (I := xJ) (xr_istore_n (i := 3) (x_dk dl_0_0_ok 9 rfl) (by decide +kernel))))))))
def tb_0 : Nat → xE := tb_0_0
theorem tb_0_ok (K : xKx) (hK : x_KP K) : ∀ pc, x_EOq cls K xJ mq_0 pc (tb_0 pc) := tb_0_0_ok K hK
end
