noncomputable section
def dl_103_0 : List (Nat × Instr × Nat) := [(0, .lload_n 0, 1), (1, .lload_n 2, 1), (2, .lcmp, 1), (3, .ifCond .lt 14, 3), (6, .lload_n 0, 1), (7, .lload 4, 2), (9, .lcmp, 1), (10, .ifCond .gt 7, 3), (13, .iconst 1, 1), (14, .goto 4, 3), (17, .iconst 0, 1), (18, .ireturn, 1)]
set_option maxRecDepth 20000 in
theorem dl_103_0_ok : dl_103_0.all (fun q => decide (decode prog_14_method_2_code q.1 = .ok (q.2.1, q.2.2))) = true := by decide +kernel
def tb_103_0 : Nat → xE := (x_T 7 (x_T 1 (x_T 0 (x_L 0 (0, xi_load 0 1 1, 0, 0)) (x_L 1 (0, xi_load 2 1 2, 0, 0))) (x_T 2 (x_L 2 (0, xi_lif 2 17 6, 0, 0)) (x_T 6 (x_L 6 (0, xi_load 0 1 7, 0, 0)) (x_L 7 (0, xi_load 4 1 9, 0, 0))))) (x_T 13 (x_T 9 (x_L 9 (0, xi_lif 4 17 13, 0, 0)) (x_L 13 (0, xi_push (0, 1, 1) 14, 0, 0))) (x_T 14 (x_L 14 (0, xi_goto 18, 0, 0)) (x_T 17 (x_L 17 (0, xi_push (0, 0, 0) 18, 0, 0)) (x_L 18 (1, x_nof, 4, 0))))))
set_option maxRecDepth 20000 in
set_option maxHeartbeats 4000000 in
theorem tb_103_0_ok (K : xKx) (hK : x_KP K) : ∀ pc, x_EOq cls K xI m_103 pc (tb_103_0 pc) :=
  (x_Tok2
  (x_Tok2
  (x_Tok2
  (x_Lok (x_st (I := xI) (xr_lload_n (i := 0) (x_dk dl_103_0_ok 0 rfl))))
  (x_Lok (x_st (I := xI) (xr_lload_n (i := 2) (x_dk dl_103_0_ok 1 rfl)))))
  (x_Tok2
  (x_Lok (x_st (I := xI) (xr_liflt (off := 14) (tg := 17) (x_dk dl_103_0_ok 2 rfl) (x_dk dl_103_0_ok 3 rfl) (by decide))))
  (x_Tok2
  (x_Lok (x_st (I := xI) (xr_lload_n (i := 0) (x_dk dl_103_0_ok 4 rfl))))
  (x_Lok (x_st (I := xI) (xr_lload (i := 4) (x_dk dl_103_0_ok 5 rfl)))))))
  (x_Tok2
  (x_Tok2
  (x_Lok (x_st (I := xI) (xr_lifgt (off := 7) (tg := 17) (x_dk dl_103_0_ok 6 rfl) (x_dk dl_103_0_ok 7 rfl) (by decide))))
  (x_Lok (x_st (I := xI) (xr_iconst (n := 1) (z := 1) (v := 1) (x_dk dl_103_0_ok 8 rfl) (by decide) (by decide)))))
  (x_Tok2
  (x_Lok (x_st (I := xI) (xr_goto (off := 4) (tg := 18) (x_dk dl_103_0_ok 9 rfl) (by decide))))
  (x_Tok2
  (x_Lok (x_st (I := xI) (xr_iconst (n := 0) (z := 0) (v := 0) (x_dk dl_103_0_ok 10 rfl) (by decide) (by decide))))
  (x_Lok (x_rt (I := xI) (k := 4) ⟨(x_dk dl_103_0_ok 11 rfl), rfl⟩))))))
def tb_103 : Nat → xE := tb_103_0
theorem tb_103_ok (K : xKx) (hK : x_KP K) : ∀ pc, x_EOq cls K xI m_103 pc (tb_103 pc) := tb_103_0_ok K hK
def dl_104_0 : List (Nat × Instr × Nat) := [(0, .aload_n 0, 1), (1, .iconst 0, 1), (2, .putfield 265, 3), (5, .aload_n 0, 1), (6, .iconst 0, 1), (7, .putfield 269, 3), (10, .aload_n 0, 1), (11, .iconst 0, 1), (12, .putfield 273, 3), (15, .aload_n 0, 1), (16, .iconst 0, 1), (17, .putfield 276, 3), (20, .aload_n 0, 1), (21, .iconst 0, 1), (22, .putfield 279, 3), (25, .aload_n 0, 1), (26, .iconst 0, 1), (27, .putfield 282, 3), (30, .aload_n 0, 1), (31, .iconst 0, 1), (32, .putfield 285, 3), (35, .aload_n 0, 1), (36, .iconst 0, 1), (37, .putfield 288, 3), (40, .aload_n 0, 1), (41, .iconst 0, 1), (42, .putfield 291, 3), (45, .iconst 0, 1), (46, .istore_n 1, 1), (47, .iload_n 1, 1), (48, .ldc 7, 2), (50, .if_icmp .ge 16, 3), (53, .aload_n 0, 1), (54, .getfield 8, 3), (57, .iload_n 1, 1), (58, .iconst 0, 1), (59, .iastore, 1), (60, .iinc 1 1, 3), (63, .goto (-16), 3), (66, .iconst 0, 1), (67, .istore_n 1, 1), (68, .iload_n 1, 1), (69, .iconst 4, 1), (70, .if_icmp .ge 100, 3), (73, .aload_n 0, 1), (74, .getfield 43, 3), (77, .iload_n 1, 1), (78, .iconst 0, 1), (79, .iastore, 1), (80, .aload_n 0, 1), (81, .getfield 8, 3), (84, .iload_n 1, 1), (85, .invokestatic 294, 3), (88, .iconst 1, 1), (89, .iadd, 1), (90, .iconst (-1), 1), (91, .iastore, 1), (92, .aload_n 0, 1), (93, .getfield 8, 3), (96, .iload_n 1, 1), (97, .invokestatic 294, 3), (100, .iconst 2, 1), (101, .iadd, 1), (102, .iconst (-1), 1), (103, .iastore, 1), (104, .aload_n 0, 1), (105, .getfield 8, 3), (108, .iload_n 1, 1), (109, .invokestatic 294, 3), (112, .iconst 3, 1), (113, .iadd, 1), (114, .iconst (-1), 1), (115, .iastore, 1), (116, .aload_n 0, 1), (117, .getfield 8, 3), (120, .iload_n 1, 1), (121, .invokestatic 294, 3), (124, .bipush 9, 2), (126, .iadd, 1), (127, .iconst (-1), 1), (128, .iastore, 1), (129, .aload_n 0, 1), (130, .getfield 104, 3), (133, .iload_n 1, 1), (134, .iconst (-1), 1), (135, .iastore, 1), (136, .aload_n 0, 1), (137, .getfield 24, 3), (140, .iload_n 1, 1), (141, .iconst 0, 1), (142, .iastore, 1), (143, .aload_n 0, 1), (144, .getfield 201, 3), (147, .iload_n 1, 1), (148, .iconst 0, 1), (149, .iastore, 1), (150, .aload_n 0, 1), (151, .getfield 204, 3), (154, .iload_n 1, 1), (155, .iconst 0, 1)]
set_option maxRecDepth 20000 in
theorem dl_104_0_ok : dl_104_0.all (fun q => decide (decode prog_14_method_3_code q.1 = .ok (q.2.1, q.2.2))) = true := by decide +kernel
def dl_104_1 : List (Nat × Instr × Nat) := [(156, .iastore, 1), (157, .aload_n 0, 1), (158, .getfield 207, 3), (161, .iload_n 1, 1), (162, .iconst 0, 1), (163, .bastore, 1), (164, .iinc 1 1, 3), (167, .goto (-99), 3), (170, .iconst 0, 1), (171, .istore_n 1, 1), (172, .iload_n 1, 1), (173, .bipush 16, 2), (175, .if_icmp .ge 21, 3), (178, .aload_n 0, 1), (179, .getfield 8, 3), (182, .iload_n 1, 1), (183, .invokestatic 298, 3), (186, .iconst 1, 1), (187, .iadd, 1), (188, .iconst (-1), 1), (189, .iastore, 1), (190, .iinc 1 1, 3), (193, .goto (-21), 3), (196, .iconst 0, 1), (197, .istore_n 1, 1), (198, .iload_n 1, 1), (199, .bipush 8, 2), (201, .if_icmp .ge 55, 3), (204, .aload_n 0, 1), (205, .getfield 8, 3), (208, .sipush 20868, 3), (211, .iload_n 1, 1), (212, .iadd, 1), (213, .iconst (-1), 1), (214, .iastore, 1), (215, .aload_n 0, 1), (216, .getfield 8, 3), (219, .sipush 20836, 3), (222, .iconst 4, 1), (223, .iload_n 1, 1), (224, .imul, 1), (225, .iadd, 1), (226, .iconst 1, 1), (227, .iastore, 1), (228, .aload_n 0, 1), (229, .getfield 8, 3), (232, .sipush 20836, 3), (235, .iconst 4, 1), (236, .iload_n 1, 1), (237, .imul, 1), (238, .iadd, 1), (239, .iconst 1, 1), (240, .iadd, 1), (241, .iconst 1, 1), (242, .iastore, 1), (243, .aload_n 0, 1), (244, .getfield 137, 3), (247, .iload_n 1, 1), (248, .iconst 0, 1), (249, .bastore, 1), (250, .iinc 1 1, 3), (253, .goto (-55), 3), (256, .iconst 0, 1), (257, .istore_n 1, 1), (258, .iload_n 1, 1), (259, .bipush 64, 2), (261, .if_icmp .ge 16, 3), (264, .aload_n 0, 1), (265, .getfield 140, 3), (268, .iload_n 1, 1), (269, .iconst (-1), 1), (270, .iastore, 1), (271, .iinc 1 1, 3), (274, .goto (-16), 3), (277, .iconst 0, 1), (278, .istore_n 1, 1), (279, .iload_n 1, 1), (280, .sipush 448, 3), (283, .if_icmp .ge 16, 3), (286, .aload_n 0, 1), (287, .getfield 83, 3), (290, .iload_n 1, 1), (291, .iconst 0, 1), (292, .bastore, 1), (293, .iinc 1 1, 3), (296, .goto (-17), 3), (299, .return_, 1)]
set_option maxRecDepth 20000 in
theorem dl_104_1_ok : dl_104_1.all (fun q => decide (decode prog_14_method_3_code q.1 = .ok (q.2.1, q.2.2))) = true := by decide +kernel
def tb_104_0 : Nat → xE := (x_T 16 (x_T 6 (x_T 1 (x_T 0 (x_L 0 (0, xi_load 0 2 1, 0, 0)) (x_L 1 (0, xi_push (0, 0, 0) 2, 0, 0))) (x_T 2 (x_L 2 (0, xi_putf 12 3 1 5, 0, 0)) (x_T 5 (x_L 5 (0, xi_load 0 2 6, 0, 0)) (x_L 6 (0, xi_push (0, 0, 0) 7, 0, 0))))) (x_T 11 (x_T 7 (x_L 7 (0, xi_putf 12 10 0 10, 0, 0)) (x_T 10 (x_L 10 (0, xi_load 0 2 11, 0, 0)) (x_L 11 (0, xi_push (0, 0, 0) 12, 0, 0)))) (x_T 12 (x_L 12 (0, xi_putf 12 23 0 15, 0, 0)) (x_T 15 (x_L 15 (0, xi_load 0 2 16, 0, 0)) (x_L 16 (0, xi_push (0, 0, 0) 17, 0, 0)))))) (x_T 26 (x_T 21 (x_T 17 (x_L 17 (0, xi_putf 12 30 0 20, 0, 0)) (x_T 20 (x_L 20 (0, xi_load 0 2 21, 0, 0)) (x_L 21 (0, xi_push (0, 0, 0) 22, 0, 0)))) (x_T 22 (x_L 22 (0, xi_putf 12 40 0 25, 0, 0)) (x_T 25 (x_L 25 (0, xi_load 0 2 26, 0, 0)) (x_L 26 (0, xi_push (0, 0, 0) 27, 0, 0))))) (x_T 31 (x_T 27 (x_L 27 (0, xi_putf 12 42 0 30, 0, 0)) (x_T 30 (x_L 30 (0, xi_load 0 2 31, 0, 0)) (x_L 31 (0, xi_push (0, 0, 0) 32, 0, 0)))) (x_T 32 (x_L 32 (0, xi_putf 12 49 0 35, 0, 0)) (x_T 35 (x_L 35 (0, xi_load 0 2 36, 0, 0)) (x_L 36 (0, xi_push (0, 0, 0) 37, 0, 0)))))))
set_option maxRecDepth 20000 in
set_option maxHeartbeats 4000000 in
theorem tb_104_0_ok (K : xKx) (hK : x_KP K) : ∀ pc, x_EOq cls K xI m_104 pc (tb_104_0 pc) :=
  (x_Tok2
  (x_Tok2
  (x_Tok2
  (x_Tok2
  (x_Lok (x_st (I := xI) (xr_aload_n (i := 0) (x_dk dl_104_0_ok 0 rfl))))
  (x_Lok (x_st (I := xI) (xr_iconst (n := 0) (z := 0) (v := 0) (x_dk dl_104_0_ok 1 rfl) (by decide) (by decide)))))
  (x_Tok2
  (x_Lok (x_st (I := xI) (xr_putf (ci := 12) (k := 3) (ix := 265) (N := 119) (fk := 1) (C := RX12) (T := TX12) (ty0 := tyX12) (ty := .boolean) rfl in_X12 tyX12_ok nmX12 (by decide) (in_t9 (List.mem_of_getElem? (i := 118) rfl) rfl) rfl rfl x_fit_bool (x_dk dl_104_0_ok 2 rfl))))
  (x_Tok2
  (x_Lok (x_st (I := xI) (xr_aload_n (i := 0) (x_dk dl_104_0_ok 3 rfl))))
  (x_Lok (x_st (I := xI) (xr_iconst (n := 0) (z := 0) (v := 0) (x_dk dl_104_0_ok 4 rfl) (by decide) (by decide)))))))
  (x_Tok2
  (x_Tok2
  (x_Lok (x_st (I := xI) (xr_putf (ci := 12) (k := 10) (ix := 269) (N := 119) (fk := 0) (C := RX12) (T := TX12) (ty0 := tyX12) (ty := .int) rfl in_X12 tyX12_ok nmX12 (by decide) (in_t9 (List.mem_of_getElem? (i := 125) rfl) rfl) rfl rfl x_fit_int (x_dk dl_104_0_ok 5 rfl))))
  (x_Tok2
  (x_Lok (x_st (I := xI) (xr_aload_n (i := 0) (x_dk dl_104_0_ok 6 rfl))))
  (x_Lok (x_st (I := xI) (xr_iconst (n := 0) (z := 0) (v := 0) (x_dk dl_104_0_ok 7 rfl) (by decide) (by decide))))))
  (x_Tok2
  (x_Lok (x_st (I := xI) (xr_putf (ci := 12) (k := 23) (ix := 273) (N := 119) (fk := 0) (C := RX12) (T := TX12) (ty0 := tyX12) (ty := .int) rfl in_X12 tyX12_ok nmX12 (by decide) (in_t9 (List.mem_of_getElem? (i := 138) rfl) rfl) rfl rfl x_fit_int (x_dk dl_104_0_ok 8 rfl))))
  (x_Tok2
  (x_Lok (x_st (I := xI) (xr_aload_n (i := 0) (x_dk dl_104_0_ok 9 rfl))))
  (x_Lok (x_st (I := xI) (xr_iconst (n := 0) (z := 0) (v := 0) (x_dk dl_104_0_ok 10 rfl) (by decide) (by decide))))))))
  (x_Tok2
  (x_Tok2
  (x_Tok2
  (x_Lok (x_st (I := xI) (xr_putf (ci := 12) (k := 30) (ix := 276) (N := 119) (fk := 0) (C := RX12) (T := TX12) (ty0 := tyX12) (ty := .int) rfl in_X12 tyX12_ok nmX12 (by decide) (in_t9 (List.mem_of_getElem? (i := 145) rfl) rfl) rfl rfl x_fit_int (x_dk dl_104_0_ok 11 rfl))))
  (x_Tok2
  (x_Lok (x_st (I := xI) (xr_aload_n (i := 0) (x_dk dl_104_0_ok 12 rfl))))
  (x_Lok (x_st (I := xI) (xr_iconst (n := 0) (z := 0) (v := 0) (x_dk dl_104_0_ok 13 rfl) (by decide) (by decide))))))
  (x_Tok2
  (x_Lok (x_st (I := xI) (xr_putf (ci := 12) (k := 40) (ix := 279) (N := 119) (fk := 0) (C := RX12) (T := TX12) (ty0 := tyX12) (ty := .int) rfl in_X12 tyX12_ok nmX12 (by decide) (in_t9 (List.mem_of_getElem? (i := 155) rfl) rfl) rfl rfl x_fit_int (x_dk dl_104_0_ok 14 rfl))))
  (x_Tok2
  (x_Lok (x_st (I := xI) (xr_aload_n (i := 0) (x_dk dl_104_0_ok 15 rfl))))
  (x_Lok (x_st (I := xI) (xr_iconst (n := 0) (z := 0) (v := 0) (x_dk dl_104_0_ok 16 rfl) (by decide) (by decide)))))))
  (x_Tok2
  (x_Tok2
  (x_Lok (x_st (I := xI) (xr_putf (ci := 12) (k := 42) (ix := 282) (N := 119) (fk := 0) (C := RX12) (T := TX12) (ty0 := tyX12) (ty := .int) rfl in_X12 tyX12_ok nmX12 (by decide) (in_t9 (List.mem_of_getElem? (i := 157) rfl) rfl) rfl rfl x_fit_int (x_dk dl_104_0_ok 17 rfl))))
  (x_Tok2
  (x_Lok (x_st (I := xI) (xr_aload_n (i := 0) (x_dk dl_104_0_ok 18 rfl))))
  (x_Lok (x_st (I := xI) (xr_iconst (n := 0) (z := 0) (v := 0) (x_dk dl_104_0_ok 19 rfl) (by decide) (by decide))))))
  (x_Tok2
  (x_Lok (x_st (I := xI) (xr_putf (ci := 12) (k := 49) (ix := 285) (N := 119) (fk := 0) (C := RX12) (T := TX12) (ty0 := tyX12) (ty := .int) rfl in_X12 tyX12_ok nmX12 (by decide) (in_t9 (List.mem_of_getElem? (i := 164) rfl) rfl) rfl rfl x_fit_int (x_dk dl_104_0_ok 20 rfl))))
  (x_Tok2
  (x_Lok (x_st (I := xI) (xr_aload_n (i := 0) (x_dk dl_104_0_ok 21 rfl))))
  (x_Lok (x_st (I := xI) (xr_iconst (n := 0) (z := 0) (v := 0) (x_dk dl_104_0_ok 22 rfl) (by decide) (by decide)))))))))
def tb_104_23 : Nat → xE := (x_T 54 (x_T 45 (x_T 40 (x_T 37 (x_L 37 (0, xi_putf 12 5 0 40, 0, 0)) (x_L 40 (0, xi_load 0 2 41, 0, 0))) (x_T 41 (x_L 41 (0, xi_push (0, 0, 0) 42, 0, 0)) (x_T 42 (x_L 42 (0, xi_putf 12 118 0 45, 0, 0)) (x_L 45 (0, xi_push (0, 0, 0) 46, 0, 0))))) (x_T 48 (x_T 46 (x_L 46 (0, xi_stor 1 0 47, 0, 0)) (x_T 47 (x_L 47 (3, xi_load 1 0 48, 0, 0)) (x_L 48 (0, xi_push (0, 33060, 33060) 50, 0, 0)))) (x_T 50 (x_L 50 (0, xi_if2 3 66 53, 0, 0)) (x_T 53 (x_L 53 (0, xi_load 0 2 54, 0, 0)) (x_L 54 (0, xi_getf 12 0 57, 0, 0)))))) (x_T 66 (x_T 59 (x_T 57 (x_L 57 (0, xi_load 1 0 58, 0, 0)) (x_T 58 (x_L 58 (0, xi_push (0, 0, 0) 59, 0, 0)) (x_L 59 (0, xi_ast false 60, 0, 0)))) (x_T 60 (x_L 60 (0, xi_incT 1 63, 0, 0)) (x_T 63 (x_L 63 (0, xi_goto 47, 0, 0)) (x_L 66 (0, xi_push (0, 0, 0) 67, 0, 0))))) (x_T 69 (x_T 67 (x_L 67 (0, xi_stor 1 0 68, 0, 0)) (x_T 68 (x_L 68 (0, xi_load 1 0 69, 0, 0)) (x_L 69 (0, xi_push (0, 4, 4) 70, 0, 0)))) (x_T 70 (x_L 70 (0, xi_if2 3 170 73, 0, 0)) (x_T 73 (x_L 73 (0, xi_load 0 2 74, 0, 0)) (x_L 74 (0, xi_getf 12 15 77, 0, 0)))))))
set_option maxRecDepth 20000 in
set_option maxHeartbeats 4000000 in
theorem tb_104_23_ok (K : xKx) (hK : x_KP K) : ∀ pc, x_EOq cls K xI m_104 pc (tb_104_23 pc) :=
  (x_Tok2
  (x_Tok2
  (x_Tok2
  (x_Tok2
  (x_Lok (x_st (I := xI) (xr_putf (ci := 12) (k := 5) (ix := 288) (N := 119) (fk := 0) (C := RX12) (T := TX12) (ty0 := tyX12) (ty := .int) rfl in_X12 tyX12_ok nmX12 (by decide) (in_t9 (List.mem_of_getElem? (i := 120) rfl) rfl) rfl rfl x_fit_int (x_dk dl_104_0_ok 23 rfl))))
  (x_Lok (x_st (I := xI) (xr_aload_n (i := 0) (x_dk dl_104_0_ok 24 rfl)))))
  (x_Tok2
  (x_Lok (x_st (I := xI) (xr_iconst (n := 0) (z := 0) (v := 0) (x_dk dl_104_0_ok 25 rfl) (by decide) (by decide))))
  (x_Tok2
  (x_Lok (x_st (I := xI) (xr_putf (ci := 12) (k := 118) (ix := 291) (N := 119) (fk := 0) (C := RX12) (T := TX12) (ty0 := tyX12) (ty := .int) rfl in_X12 tyX12_ok nmX12 (by decide) (in_t9 (List.mem_of_getElem? (i := 233) rfl) rfl) rfl rfl x_fit_int (x_dk dl_104_0_ok 26 rfl))))
  (x_Lok (x_st (I := xI) (xr_iconst (n := 0) (z := 0) (v := 0) (x_dk dl_104_0_ok 27 rfl) (by decide) (by decide)))))))
  (x_Tok2
  (x_Tok2
  (x_Lok (x_st (I := xI) (xr_istore_n (i := 1) (x_dk dl_104_0_ok 28 rfl) (by decide +kernel))))
  (x_Tok2
  (x_Lok (x_lo (I := xI) (L := 0) (xr_iload_n (i := 1) (x_dk dl_104_0_ok 29 rfl))))
  (x_Lok (x_st (I := xI) (xr_ldc (ix := 7) (z := 33060) (v := 33060) (x_dk dl_104_0_ok 30 rfl) (in_t9 (List.mem_of_getElem? (i := 86) rfl) rfl) (by decide))))))
  (x_Tok2
  (x_Lok (x_st (I := xI) (xr_icmpge (off := 16) (tg := 66) (x_dk dl_104_0_ok 31 rfl) (by decide))))
  (x_Tok2
  (x_Lok (x_st (I := xI) (xr_aload_n (i := 0) (x_dk dl_104_0_ok 32 rfl))))
  (x_Lok (x_st (I := xI) (xr_getf (ci := 12) (k := 0) (ix := 8) (N := 119) (C := RX12) (T := TX12) rfl in_X12 (by decide) (in_t9 (List.mem_of_getElem? (i := 115) rfl) rfl) (x_dk dl_104_0_ok 33 rfl))))))))
  (x_Tok2
  (x_Tok2
  (x_Tok2
  (x_Lok (x_st (I := xI) (xr_iload_n (i := 1) (x_dk dl_104_0_ok 34 rfl))))
  (x_Tok2
  (x_Lok (x_st (I := xI) (xr_iconst (n := 0) (z := 0) (v := 0) (x_dk dl_104_0_ok 35 rfl) (by decide) (by decide))))
  (x_Lok (x_st (I := xI) (xr_iastore (x_dk dl_104_0_ok 36 rfl))))))
  (x_Tok2
  (x_Lok (x_st (I := xI) (xr_iincT (i := 1) (x_hev hK) (x_dk dl_104_0_ok 37 rfl) (by decide +kernel))))
  (x_Tok2
  (x_Lok (x_st (I := xI) (xr_goto (off := (-16)) (tg := 47) (x_dk dl_104_0_ok 38 rfl) (by decide))))
  (x_Lok (x_st (I := xI) (xr_iconst (n := 0) (z := 0) (v := 0) (x_dk dl_104_0_ok 39 rfl) (by decide) (by decide)))))))
  (x_Tok2
  (x_Tok2
  (x_Lok (x_st (I := xI) (xr_istore_n (i := 1) (x_dk dl_104_0_ok 40 rfl) (by decide +kernel))))
  (x_Tok2
  (x_Lok (x_st (I := xI) (xr_iload_n (i := 1) (x_dk dl_104_0_ok 41 rfl))))
  (x_Lok (x_st (I := xI) (xr_iconst (n := 4) (z := 4) (v := 4) (x_dk dl_104_0_ok 42 rfl) (by decide) (by decide))))))
  (x_Tok2
  (x_Lok (x_st (I := xI) (xr_icmpge (off := 100) (tg := 170) (x_dk dl_104_0_ok 43 rfl) (by decide))))
  (x_Tok2
  (x_Lok (x_st (I := xI) (xr_aload_n (i := 0) (x_dk dl_104_0_ok 44 rfl))))
  (x_Lok (x_st (I := xI) (xr_getf (ci := 12) (k := 15) (ix := 43) (N := 119) (C := RX12) (T := TX12) rfl in_X12 (by decide) (in_t9 (List.mem_of_getElem? (i := 130) rfl) rfl) (x_dk dl_104_0_ok 45 rfl)))))))))
def tb_104_46 : Nat → xE := (x_T 91 (x_T 81 (x_T 78 (x_T 77 (x_L 77 (0, xi_load 1 0 78, 0, 0)) (x_L 78 (0, xi_push (0, 0, 0) 79, 0, 0))) (x_T 79 (x_L 79 (0, xi_ast false 80, 0, 0)) (x_T 80 (x_L 80 (0, xi_load 0 2 81, 0, 0)) (x_L 81 (0, xi_getf 12 0 84, 0, 0))))) (x_T 88 (x_T 84 (x_L 84 (0, xi_load 1 0 85, 0, 0)) (x_T 85 (x_L 85 (2, x_nof, 105, 1)) (x_L 88 (0, xi_push (0, 1, 1) 89, 0, 0)))) (x_T 89 (x_L 89 (0, xi_bin xF_add 90, 0, 0)) (x_T 90 (x_L 90 (0, xi_push (0, (-1), (-1)) 91, 0, 0)) (x_L 91 (0, xi_ast false 92, 0, 0)))))) (x_T 101 (x_T 96 (x_T 92 (x_L 92 (0, xi_load 0 2 93, 0, 0)) (x_T 93 (x_L 93 (0, xi_getf 12 0 96, 0, 0)) (x_L 96 (0, xi_load 1 0 97, 0, 0)))) (x_T 97 (x_L 97 (2, x_nof, 105, 1)) (x_T 100 (x_L 100 (0, xi_push (0, 2, 2) 101, 0, 0)) (x_L 101 (0, xi_bin xF_add 102, 0, 0))))) (x_T 104 (x_T 102 (x_L 102 (0, xi_push (0, (-1), (-1)) 103, 0, 0)) (x_T 103 (x_L 103 (0, xi_ast false 104, 0, 0)) (x_L 104 (0, xi_load 0 2 105, 0, 0)))) (x_T 105 (x_L 105 (0, xi_getf 12 0 108, 0, 0)) (x_T 108 (x_L 108 (0, xi_load 1 0 109, 0, 0)) (x_L 109 (2, x_nof, 105, 1)))))))
set_option maxRecDepth 20000 in
set_option maxHeartbeats 4000000 in
theorem tb_104_46_ok (K : xKx) (hK : x_KP K) : ∀ pc, x_EOq cls K xI m_104 pc (tb_104_46 pc) :=
  (x_Tok2
  (x_Tok2
  (x_Tok2
  (x_Tok2
  (x_Lok (x_st (I := xI) (xr_iload_n (i := 1) (x_dk dl_104_0_ok 46 rfl))))
  (x_Lok (x_st (I := xI) (xr_iconst (n := 0) (z := 0) (v := 0) (x_dk dl_104_0_ok 47 rfl) (by decide) (by decide)))))
  (x_Tok2
  (x_Lok (x_st (I := xI) (xr_iastore (x_dk dl_104_0_ok 48 rfl))))
  (x_Tok2
  (x_Lok (x_st (I := xI) (xr_aload_n (i := 0) (x_dk dl_104_0_ok 49 rfl))))
  (x_Lok (x_st (I := xI) (xr_getf (ci := 12) (k := 0) (ix := 8) (N := 119) (C := RX12) (T := TX12) rfl in_X12 (by decide) (in_t9 (List.mem_of_getElem? (i := 115) rfl) rfl) (x_dk dl_104_0_ok 50 rfl)))))))
  (x_Tok2
  (x_Tok2
  (x_Lok (x_st (I := xI) (xr_iload_n (i := 1) (x_dk dl_104_0_ok 51 rfl))))
  (x_Tok2
  (x_Lok (x_ca (I := xI) (q' := m_105) rfl (xr_callS (q' := m_105) (ix := 294) (n := 1) (in_t9 (List.mem_of_getElem? (i := 111) rfl) rfl) good_w (in_t1 (List.mem_of_getElem? (i := 14) rfl) rfl) (in_t9 (List.mem_of_getElem? (i := 109) rfl) rfl) (in_t9 (List.mem_of_getElem? (i := 110) rfl) rfl) (by decide +kernel) (by decide +kernel) (x_dk dl_104_0_ok 52 rfl))))
  (x_Lok (x_st (I := xI) (xr_iconst (n := 1) (z := 1) (v := 1) (x_dk dl_104_0_ok 53 rfl) (by decide) (by decide))))))
  (x_Tok2
  (x_Lok (x_st (I := xI) (xr_iadd (x_dk dl_104_0_ok 54 rfl))))
  (x_Tok2
  (x_Lok (x_st (I := xI) (xr_iconst (n := (-1)) (z := (-1)) (v := (-1)) (x_dk dl_104_0_ok 55 rfl) (by decide) (by decide))))
  (x_Lok (x_st (I := xI) (xr_iastore (x_dk dl_104_0_ok 56 rfl))))))))
  (x_Tok2
  (x_Tok2
  (x_Tok2
  (x_Lok (x_st (I := xI) (xr_aload_n (i := 0) (x_dk dl_104_0_ok 57 rfl))))
  (x_Tok2
  (x_Lok (x_st (I := xI) (xr_getf (ci := 12) (k := 0) (ix := 8) (N := 119) (C := RX12) (T := TX12) rfl in_X12 (by decide) (in_t9 (List.mem_of_getElem? (i := 115) rfl) rfl) (x_dk dl_104_0_ok 58 rfl))))
  (x_Lok (x_st (I := xI) (xr_iload_n (i := 1) (x_dk dl_104_0_ok 59 rfl))))))
  (x_Tok2
  (x_Lok (x_ca (I := xI) (q' := m_105) rfl (xr_callS (q' := m_105) (ix := 294) (n := 1) (in_t9 (List.mem_of_getElem? (i := 111) rfl) rfl) good_w (in_t1 (List.mem_of_getElem? (i := 14) rfl) rfl) (in_t9 (List.mem_of_getElem? (i := 109) rfl) rfl) (in_t9 (List.mem_of_getElem? (i := 110) rfl) rfl) (by decide +kernel) (by decide +kernel) (x_dk dl_104_0_ok 60 rfl))))
  (x_Tok2
  (x_Lok (x_st (I := xI) (xr_iconst (n := 2) (z := 2) (v := 2) (x_dk dl_104_0_ok 61 rfl) (by decide) (by decide))))
  (x_Lok (x_st (I := xI) (xr_iadd (x_dk dl_104_0_ok 62 rfl)))))))
  (x_Tok2
  (x_Tok2
  (x_Lok (x_st (I := xI) (xr_iconst (n := (-1)) (z := (-1)) (v := (-1)) (x_dk dl_104_0_ok 63 rfl) (by decide) (by decide))))
  (x_Tok2
  (x_Lok (x_st (I := xI) (xr_iastore (x_dk dl_104_0_ok 64 rfl))))
  (x_Lok (x_st (I := xI) (xr_aload_n (i := 0) (x_dk dl_104_0_ok 65 rfl))))))
  (x_Tok2
  (x_Lok (x_st (I := xI) (xr_getf (ci := 12) (k := 0) (ix := 8) (N := 119) (C := RX12) (T := TX12) rfl in_X12 (by decide) (in_t9 (List.mem_of_getElem? (i := 115) rfl) rfl) (x_dk dl_104_0_ok 66 rfl))))
  (x_Tok2
  (x_Lok (x_st (I := xI) (xr_iload_n (i := 1) (x_dk dl_104_0_ok 67 rfl))))
  (x_Lok (x_ca (I := xI) (q' := m_105) rfl (xr_callS (q' := m_105) (ix := 294) (n := 1) (in_t9 (List.mem_of_getElem? (i := 111) rfl) rfl) good_w (in_t1 (List.mem_of_getElem? (i := 14) rfl) rfl) (in_t9 (List.mem_of_getElem? (i := 109) rfl) rfl) (in_t9 (List.mem_of_getElem? (i := 110) rfl) rfl) (by decide +kernel) (by decide +kernel) (x_dk dl_104_0_ok 68 rfl)))))))))
def tb_104_69 : Nat → xE := (x_T 128 (x_T 117 (x_T 114 (x_T 112 (x_L 112 (0, xi_push (0, 3, 3) 113, 0, 0)) (x_T 113 (x_L 113 (0, xi_bin xF_add 114, 0, 0)) (x_L 114 (0, xi_push (0, (-1), (-1)) 115, 0, 0)))) (x_T 115 (x_L 115 (0, xi_ast false 116, 0, 0)) (x_T 116 (x_L 116 (0, xi_load 0 2 117, 0, 0)) (x_L 117 (0, xi_getf 12 0 120, 0, 0))))) (x_T 124 (x_T 120 (x_L 120 (0, xi_load 1 0 121, 0, 0)) (x_T 121 (x_L 121 (2, x_nof, 105, 1)) (x_L 124 (0, xi_push (0, 9, 9) 126, 0, 0)))) (x_T 126 (x_L 126 (0, xi_bin xF_add 127, 0, 0)) (x_T 127 (x_L 127 (0, xi_push (0, (-1), (-1)) 128, 0, 0)) (x_L 128 (0, xi_ast false 129, 0, 0)))))) (x_T 136 (x_T 133 (x_T 129 (x_L 129 (0, xi_load 0 2 130, 0, 0)) (x_T 130 (x_L 130 (0, xi_getf 12 37 133, 0, 0)) (x_L 133 (0, xi_load 1 0 134, 0, 0)))) (x_T 134 (x_L 134 (0, xi_push (0, (-1), (-1)) 135, 0, 0)) (x_T 135 (x_L 135 (0, xi_ast false 136, 0, 0)) (x_L 136 (0, xi_load 0 2 137, 0, 0))))) (x_T 141 (x_T 137 (x_L 137 (0, xi_getf 12 7 140, 0, 0)) (x_T 140 (x_L 140 (0, xi_load 1 0 141, 0, 0)) (x_L 141 (0, xi_push (0, 0, 0) 142, 0, 0)))) (x_T 142 (x_L 142 (0, xi_ast false 143, 0, 0)) (x_T 143 (x_L 143 (0, xi_load 0 2 144, 0, 0)) (x_L 144 (0, xi_getf 12 75 147, 0, 0)))))))
set_option maxRecDepth 20000 in
set_option maxHeartbeats 4000000 in
theorem tb_104_69_ok (K : xKx) (hK : x_KP K) : ∀ pc, x_EOq cls K xI m_104 pc (tb_104_69 pc) :=
  (x_Tok2
  (x_Tok2
  (x_Tok2
  (x_Tok2
  (x_Lok (x_st (I := xI) (xr_iconst (n := 3) (z := 3) (v := 3) (x_dk dl_104_0_ok 69 rfl) (by decide) (by decide))))
  (x_Tok2
  (x_Lok (x_st (I := xI) (xr_iadd (x_dk dl_104_0_ok 70 rfl))))
  (x_Lok (x_st (I := xI) (xr_iconst (n := (-1)) (z := (-1)) (v := (-1)) (x_dk dl_104_0_ok 71 rfl) (by decide) (by decide))))))
  (x_Tok2
  (x_Lok (x_st (I := xI) (xr_iastore (x_dk dl_104_0_ok 72 rfl))))
  (x_Tok2
  (x_Lok (x_st (I := xI) (xr_aload_n (i := 0) (x_dk dl_104_0_ok 73 rfl))))
  (x_Lok (x_st (I := xI) (xr_getf (ci := 12) (k := 0) (ix := 8) (N := 119) (C := RX12) (T := TX12) rfl in_X12 (by decide) (in_t9 (List.mem_of_getElem? (i := 115) rfl) rfl) (x_dk dl_104_0_ok 74 rfl)))))))
  (x_Tok2
  (x_Tok2
  (x_Lok (x_st (I := xI) (xr_iload_n (i := 1) (x_dk dl_104_0_ok 75 rfl))))
  (x_Tok2
  (x_Lok (x_ca (I := xI) (q' := m_105) rfl (xr_callS (q' := m_105) (ix := 294) (n := 1) (in_t9 (List.mem_of_getElem? (i := 111) rfl) rfl) good_w (in_t1 (List.mem_of_getElem? (i := 14) rfl) rfl) (in_t9 (List.mem_of_getElem? (i := 109) rfl) rfl) (in_t9 (List.mem_of_getElem? (i := 110) rfl) rfl) (by decide +kernel) (by decide +kernel) (x_dk dl_104_0_ok 76 rfl))))
  (x_Lok (x_st (I := xI) (xr_bipush (n := 9) (z := 9) (v := 9) (x_dk dl_104_0_ok 77 rfl) (by decide) (by decide))))))
  (x_Tok2
  (x_Lok (x_st (I := xI) (xr_iadd (x_dk dl_104_0_ok 78 rfl))))
  (x_Tok2
  (x_Lok (x_st (I := xI) (xr_iconst (n := (-1)) (z := (-1)) (v := (-1)) (x_dk dl_104_0_ok 79 rfl) (by decide) (by decide))))
  (x_Lok (x_st (I := xI) (xr_iastore (x_dk dl_104_0_ok 80 rfl))))))))
  (x_Tok2
  (x_Tok2
  (x_Tok2
  (x_Lok (x_st (I := xI) (xr_aload_n (i := 0) (x_dk dl_104_0_ok 81 rfl))))
  (x_Tok2
  (x_Lok (x_st (I := xI) (xr_getf (ci := 12) (k := 37) (ix := 104) (N := 119) (C := RX12) (T := TX12) rfl in_X12 (by decide) (in_t9 (List.mem_of_getElem? (i := 152) rfl) rfl) (x_dk dl_104_0_ok 82 rfl))))
  (x_Lok (x_st (I := xI) (xr_iload_n (i := 1) (x_dk dl_104_0_ok 83 rfl))))))
  (x_Tok2
  (x_Lok (x_st (I := xI) (xr_iconst (n := (-1)) (z := (-1)) (v := (-1)) (x_dk dl_104_0_ok 84 rfl) (by decide) (by decide))))
  (x_Tok2
  (x_Lok (x_st (I := xI) (xr_iastore (x_dk dl_104_0_ok 85 rfl))))
  (x_Lok (x_st (I := xI) (xr_aload_n (i := 0) (x_dk dl_104_0_ok 86 rfl)))))))
  (x_Tok2
  (x_Tok2
  (x_Lok (x_st (I := xI) (xr_getf (ci := 12) (k := 7) (ix := 24) (N := 119) (C := RX12) (T := TX12) rfl in_X12 (by decide) (in_t9 (List.mem_of_getElem? (i := 122) rfl) rfl) (x_dk dl_104_0_ok 87 rfl))))
  (x_Tok2
  (x_Lok (x_st (I := xI) (xr_iload_n (i := 1) (x_dk dl_104_0_ok 88 rfl))))
  (x_Lok (x_st (I := xI) (xr_iconst (n := 0) (z := 0) (v := 0) (x_dk dl_104_0_ok 89 rfl) (by decide) (by decide))))))
  (x_Tok2
  (x_Lok (x_st (I := xI) (xr_iastore (x_dk dl_104_0_ok 90 rfl))))
  (x_Tok2
  (x_Lok (x_st (I := xI) (xr_aload_n (i := 0) (x_dk dl_104_0_ok 91 rfl))))
  (x_Lok (x_st (I := xI) (xr_getf (ci := 12) (k := 75) (ix := 201) (N := 119) (C := RX12) (T := TX12) rfl in_X12 (by decide) (in_t9 (List.mem_of_getElem? (i := 190) rfl) rfl) (x_dk dl_104_0_ok 92 rfl)))))))))
def tb_104_93 : Nat → xE := (x_T 161 (x_T 151 (x_T 148 (x_T 147 (x_L 147 (0, xi_load 1 0 148, 0, 0)) (x_L 148 (0, xi_push (0, 0, 0) 149, 0, 0))) (x_T 149 (x_L 149 (0, xi_ast false 150, 0, 0)) (x_T 150 (x_L 150 (0, xi_load 0 2 151, 0, 0)) (x_L 151 (0, xi_getf 12 76 154, 0, 0))))) (x_T 156 (x_T 154 (x_L 154 (0, xi_load 1 0 155, 0, 0)) (x_T 155 (x_L 155 (0, xi_push (0, 0, 0) 156, 0, 0)) (x_L 156 (0, xi_ast false 157, 0, 0)))) (x_T 157 (x_L 157 (0, xi_load 0 2 158, 0, 0)) (x_T 158 (x_L 158 (0, xi_getf 12 77 161, 0, 0)) (x_L 161 (0, xi_load 1 0 162, 0, 0)))))) (x_T 171 (x_T 164 (x_T 162 (x_L 162 (0, xi_push (0, 0, 0) 163, 0, 0)) (x_T 163 (x_L 163 (0, xi_ast true 164, 0, 0)) (x_L 164 (0, xi_inc 1 1 167, 0, 0)))) (x_T 167 (x_L 167 (0, xi_goto 68, 0, 0)) (x_T 170 (x_L 170 (0, xi_push (0, 0, 0) 171, 0, 0)) (x_L 171 (0, xi_stor 1 0 172, 0, 0))))) (x_T 175 (x_T 172 (x_L 172 (0, xi_load 1 0 173, 0, 0)) (x_T 173 (x_L 173 (0, xi_push (0, 16, 16) 175, 0, 0)) (x_L 175 (0, xi_if2 3 196 178, 0, 0)))) (x_T 178 (x_L 178 (0, xi_load 0 2 179, 0, 0)) (x_T 179 (x_L 179 (0, xi_getf 12 0 182, 0, 0)) (x_L 182 (0, xi_load 1 0 183, 0, 0)))))))
set_option maxRecDepth 20000 in
set_option maxHeartbeats 4000000 in
theorem tb_104_93_ok (K : xKx) (hK : x_KP K) : ∀ pc, x_EOq cls K xI m_104 pc (tb_104_93 pc) :=
  (x_Tok2
  (x_Tok2
  (x_Tok2
  (x_Tok2
  (x_Lok (x_st (I := xI) (xr_iload_n (i := 1) (x_dk dl_104_0_ok 93 rfl))))
  (x_Lok (x_st (I := xI) (xr_iconst (n := 0) (z := 0) (v := 0) (x_dk dl_104_0_ok 94 rfl) (by decide) (by decide)))))
  (x_Tok2
  (x_Lok (x_st (I := xI) (xr_iastore (x_dk dl_104_0_ok 95 rfl))))
  (x_Tok2
  (x_Lok (x_st (I := xI) (xr_aload_n (i := 0) (x_dk dl_104_0_ok 96 rfl))))
  (x_Lok (x_st (I := xI) (xr_getf (ci := 12) (k := 76) (ix := 204) (N := 119) (C := RX12) (T := TX12) rfl in_X12 (by decide) (in_t9 (List.mem_of_getElem? (i := 191) rfl) rfl) (x_dk dl_104_0_ok 97 rfl)))))))
  (x_Tok2
  (x_Tok2
  (x_Lok (x_st (I := xI) (xr_iload_n (i := 1) (x_dk dl_104_0_ok 98 rfl))))
  (x_Tok2
  (x_Lok (x_st (I := xI) (xr_iconst (n := 0) (z := 0) (v := 0) (x_dk dl_104_0_ok 99 rfl) (by decide) (by decide))))
  (x_Lok (x_st (I := xI) (xr_iastore (x_dk dl_104_1_ok 0 rfl))))))
  (x_Tok2
  (x_Lok (x_st (I := xI) (xr_aload_n (i := 0) (x_dk dl_104_1_ok 1 rfl))))
  (x_Tok2
  (x_Lok (x_st (I := xI) (xr_getf (ci := 12) (k := 77) (ix := 207) (N := 119) (C := RX12) (T := TX12) rfl in_X12 (by decide) (in_t9 (List.mem_of_getElem? (i := 192) rfl) rfl) (x_dk dl_104_1_ok 2 rfl))))
  (x_Lok (x_st (I := xI) (xr_iload_n (i := 1) (x_dk dl_104_1_ok 3 rfl))))))))
  (x_Tok2
  (x_Tok2
  (x_Tok2
  (x_Lok (x_st (I := xI) (xr_iconst (n := 0) (z := 0) (v := 0) (x_dk dl_104_1_ok 4 rfl) (by decide) (by decide))))
  (x_Tok2
  (x_Lok (x_st (I := xI) (xr_bastore (x_dk dl_104_1_ok 5 rfl))))
  (x_Lok (x_st (I := xI) (xr_iinc (i := 1) (n := 1) (x_dk dl_104_1_ok 6 rfl) (by decide +kernel) (by decide))))))
  (x_Tok2
  (x_Lok (x_st (I := xI) (xr_goto (off := (-99)) (tg := 68) (x_dk dl_104_1_ok 7 rfl) (by decide))))
  (x_Tok2
  (x_Lok (x_st (I := xI) (xr_iconst (n := 0) (z := 0) (v := 0) (x_dk dl_104_1_ok 8 rfl) (by decide) (by decide))))
  (x_Lok (x_st (I := xI) (xr_istore_n (i := 1) (x_dk dl_104_1_ok 9 rfl) (by decide +kernel)))))))
  (x_Tok2
  (x_Tok2
  (x_Lok (x_st (I := xI) (xr_iload_n (i := 1) (x_dk dl_104_1_ok 10 rfl))))
  (x_Tok2
  (x_Lok (x_st (I := xI) (xr_bipush (n := 16) (z := 16) (v := 16) (x_dk dl_104_1_ok 11 rfl) (by decide) (by decide))))
  (x_Lok (x_st (I := xI) (xr_icmpge (off := 21) (tg := 196) (x_dk dl_104_1_ok 12 rfl) (by decide))))))
  (x_Tok2
  (x_Lok (x_st (I := xI) (xr_aload_n (i := 0) (x_dk dl_104_1_ok 13 rfl))))
  (x_Tok2
  (x_Lok (x_st (I := xI) (xr_getf (ci := 12) (k := 0) (ix := 8) (N := 119) (C := RX12) (T := TX12) rfl in_X12 (by decide) (in_t9 (List.mem_of_getElem? (i := 115) rfl) rfl) (x_dk dl_104_1_ok 14 rfl))))
  (x_Lok (x_st (I := xI) (xr_iload_n (i := 1) (x_dk dl_104_1_ok 15 rfl)))))))))
def tb_104_116 : Nat → xE := (x_T 201 (x_T 190 (x_T 187 (x_T 183 (x_L 183 (2, x_nof, 106, 1)) (x_T 186 (x_L 186 (0, xi_push (0, 1, 1) 187, 0, 0)) (x_L 187 (0, xi_bin xF_add 188, 0, 0)))) (x_T 188 (x_L 188 (0, xi_push (0, (-1), (-1)) 189, 0, 0)) (x_T 189 (x_L 189 (0, xi_ast false 190, 0, 0)) (x_L 190 (0, xi_inc 1 1 193, 0, 0))))) (x_T 197 (x_T 193 (x_L 193 (0, xi_goto 172, 0, 0)) (x_T 196 (x_L 196 (0, xi_push (0, 0, 0) 197, 0, 0)) (x_L 197 (0, xi_stor 1 0 198, 0, 0)))) (x_T 198 (x_L 198 (0, xi_load 1 0 199, 0, 0)) (x_T 199 (x_L 199 (0, xi_push (0, 8, 8) 201, 0, 0)) (x_L 201 (0, xi_if2 3 256 204, 0, 0)))))) (x_T 213 (x_T 208 (x_T 204 (x_L 204 (0, xi_load 0 2 205, 0, 0)) (x_T 205 (x_L 205 (0, xi_getf 12 0 208, 0, 0)) (x_L 208 (0, xi_push (0, 20868, 20868) 211, 0, 0)))) (x_T 211 (x_L 211 (0, xi_load 1 0 212, 0, 0)) (x_T 212 (x_L 212 (0, xi_bin xF_add 213, 0, 0)) (x_L 213 (0, xi_push (0, (-1), (-1)) 214, 0, 0))))) (x_T 216 (x_T 214 (x_L 214 (0, xi_ast false 215, 0, 0)) (x_T 215 (x_L 215 (0, xi_load 0 2 216, 0, 0)) (x_L 216 (0, xi_getf 12 0 219, 0, 0)))) (x_T 219 (x_L 219 (0, xi_push (0, 20836, 20836) 222, 0, 0)) (x_T 222 (x_L 222 (0, xi_push (0, 4, 4) 223, 0, 0)) (x_L 223 (0, xi_load 1 0 224, 0, 0)))))))
set_option maxRecDepth 20000 in
set_option maxHeartbeats 4000000 in
theorem tb_104_116_ok (K : xKx) (hK : x_KP K) : ∀ pc, x_EOq cls K xI m_104 pc (tb_104_116 pc) :=
  (x_Tok2
  (x_Tok2
  (x_Tok2
  (x_Tok2
  (x_Lok (x_ca (I := xI) (q' := m_106) rfl (xr_callS (q' := m_106) (ix := 298) (n := 1) (in_t9 (List.mem_of_getElem? (i := 114) rfl) rfl) good_w (in_t1 (List.mem_of_getElem? (i := 14) rfl) rfl) (in_t9 (List.mem_of_getElem? (i := 112) rfl) rfl) (in_t9 (List.mem_of_getElem? (i := 113) rfl) rfl) (by decide +kernel) (by decide +kernel) (x_dk dl_104_1_ok 16 rfl))))
  (x_Tok2
  (x_Lok (x_st (I := xI) (xr_iconst (n := 1) (z := 1) (v := 1) (x_dk dl_104_1_ok 17 rfl) (by decide) (by decide))))
  (x_Lok (x_st (I := xI) (xr_iadd (x_dk dl_104_1_ok 18 rfl))))))
  (x_Tok2
  (x_Lok (x_st (I := xI) (xr_iconst (n := (-1)) (z := (-1)) (v := (-1)) (x_dk dl_104_1_ok 19 rfl) (by decide) (by decide))))
  (x_Tok2
  (x_Lok (x_st (I := xI) (xr_iastore (x_dk dl_104_1_ok 20 rfl))))
  (x_Lok (x_st (I := xI) (xr_iinc (i := 1) (n := 1) (x_dk dl_104_1_ok 21 rfl) (by decide +kernel) (by decide)))))))
  (x_Tok2
  (x_Tok2
  (x_Lok (x_st (I := xI) (xr_goto (off := (-21)) (tg := 172) (x_dk dl_104_1_ok 22 rfl) (by decide))))
  (x_Tok2
  (x_Lok (x_st (I := xI) (xr_iconst (n := 0) (z := 0) (v := 0) (x_dk dl_104_1_ok 23 rfl) (by decide) (by decide))))
  (x_Lok (x_st (I := xI) (xr_istore_n (i := 1) (x_dk dl_104_1_ok 24 rfl) (by decide +kernel))))))
  (x_Tok2
  (x_Lok (x_st (I := xI) (xr_iload_n (i := 1) (x_dk dl_104_1_ok 25 rfl))))
  (x_Tok2
  (x_Lok (x_st (I := xI) (xr_bipush (n := 8) (z := 8) (v := 8) (x_dk dl_104_1_ok 26 rfl) (by decide) (by decide))))
  (x_Lok (x_st (I := xI) (xr_icmpge (off := 55) (tg := 256) (x_dk dl_104_1_ok 27 rfl) (by decide))))))))
  (x_Tok2
  (x_Tok2
  (x_Tok2
  (x_Lok (x_st (I := xI) (xr_aload_n (i := 0) (x_dk dl_104_1_ok 28 rfl))))
  (x_Tok2
  (x_Lok (x_st (I := xI) (xr_getf (ci := 12) (k := 0) (ix := 8) (N := 119) (C := RX12) (T := TX12) rfl in_X12 (by decide) (in_t9 (List.mem_of_getElem? (i := 115) rfl) rfl) (x_dk dl_104_1_ok 29 rfl))))
  (x_Lok (x_st (I := xI) (xr_sipush (n := 20868) (z := 20868) (v := 20868) (x_dk dl_104_1_ok 30 rfl) (by decide) (by decide))))))
  (x_Tok2
  (x_Lok (x_st (I := xI) (xr_iload_n (i := 1) (x_dk dl_104_1_ok 31 rfl))))
  (x_Tok2
  (x_Lok (x_st (I := xI) (xr_iadd (x_dk dl_104_1_ok 32 rfl))))
  (x_Lok (x_st (I := xI) (xr_iconst (n := (-1)) (z := (-1)) (v := (-1)) (x_dk dl_104_1_ok 33 rfl) (by decide) (by decide)))))))
  (x_Tok2
  (x_Tok2
  (x_Lok (x_st (I := xI) (xr_iastore (x_dk dl_104_1_ok 34 rfl))))
  (x_Tok2
  (x_Lok (x_st (I := xI) (xr_aload_n (i := 0) (x_dk dl_104_1_ok 35 rfl))))
  (x_Lok (x_st (I := xI) (xr_getf (ci := 12) (k := 0) (ix := 8) (N := 119) (C := RX12) (T := TX12) rfl in_X12 (by decide) (in_t9 (List.mem_of_getElem? (i := 115) rfl) rfl) (x_dk dl_104_1_ok 36 rfl))))))
  (x_Tok2
  (x_Lok (x_st (I := xI) (xr_sipush (n := 20836) (z := 20836) (v := 20836) (x_dk dl_104_1_ok 37 rfl) (by decide) (by decide))))
  (x_Tok2
  (x_Lok (x_st (I := xI) (xr_iconst (n := 4) (z := 4) (v := 4) (x_dk dl_104_1_ok 38 rfl) (by decide) (by decide))))
  (x_Lok (x_st (I := xI) (xr_iload_n (i := 1) (x_dk dl_104_1_ok 39 rfl)))))))))
def tb_104_140 : Nat → xE := (x_T 238 (x_T 228 (x_T 225 (x_T 224 (x_L 224 (0, xi_bin xF_mul 225, 0, 0)) (x_L 225 (0, xi_bin xF_add 226, 0, 0))) (x_T 226 (x_L 226 (0, xi_push (0, 1, 1) 227, 0, 0)) (x_T 227 (x_L 227 (0, xi_ast false 228, 0, 0)) (x_L 228 (0, xi_load 0 2 229, 0, 0))))) (x_T 235 (x_T 229 (x_L 229 (0, xi_getf 12 0 232, 0, 0)) (x_T 232 (x_L 232 (0, xi_push (0, 20836, 20836) 235, 0, 0)) (x_L 235 (0, xi_push (0, 4, 4) 236, 0, 0)))) (x_T 236 (x_L 236 (0, xi_load 1 0 237, 0, 0)) (x_T 237 (x_L 237 (0, xi_bin xF_mul 238, 0, 0)) (x_L 238 (0, xi_bin xF_add 239, 0, 0)))))) (x_T 244 (x_T 241 (x_T 239 (x_L 239 (0, xi_push (0, 1, 1) 240, 0, 0)) (x_T 240 (x_L 240 (0, xi_bin xF_add 241, 0, 0)) (x_L 241 (0, xi_push (0, 1, 1) 242, 0, 0)))) (x_T 242 (x_L 242 (0, xi_ast false 243, 0, 0)) (x_T 243 (x_L 243 (0, xi_load 0 2 244, 0, 0)) (x_L 244 (0, xi_getf 12 51 247, 0, 0))))) (x_T 249 (x_T 247 (x_L 247 (0, xi_load 1 0 248, 0, 0)) (x_T 248 (x_L 248 (0, xi_push (0, 0, 0) 249, 0, 0)) (x_L 249 (0, xi_ast true 250, 0, 0)))) (x_T 250 (x_L 250 (0, xi_inc 1 1 253, 0, 0)) (x_T 253 (x_L 253 (0, xi_goto 198, 0, 0)) (x_L 256 (0, xi_push (0, 0, 0) 257, 0, 0)))))))
set_option maxRecDepth 20000 in
set_option maxHeartbeats 4000000 in
theorem tb_104_140_ok (K : xKx) (hK : x_KP K) : ∀ pc, x_EOq cls K xI m_104 pc (tb_104_140 pc) :=
  (x_Tok2
  (x_Tok2
  (x_Tok2
  (x_Tok2
  (x_Lok (x_st (I := xI) (xr_imul (x_dk dl_104_1_ok 40 rfl))))
  (x_Lok (x_st (I := xI) (xr_iadd (x_dk dl_104_1_ok 41 rfl)))))
  (x_Tok2
  (x_Lok (x_st (I := xI) (xr_iconst (n := 1) (z := 1) (v := 1) (x_dk dl_104_1_ok 42 rfl) (by decide) (by decide))))
  (x_Tok2
  (x_Lok (x_st (I := xI) (xr_iastore (x_dk dl_104_1_ok 43 rfl))))
  (x_Lok (x_st (I := xI) (xr_aload_n (i := 0) (x_dk dl_104_1_ok 44 rfl)))))))
  (x_Tok2
  (x_Tok2
  (x_Lok (x_st (I := xI) (xr_getf (ci := 12) (k := 0) (ix := 8) (N := 119) (C := RX12) (T := TX12) rfl in_X12 (by decide) (in_t9 (List.mem_of_getElem? (i := 115) rfl) rfl) (x_dk dl_104_1_ok 45 rfl))))
  (x_Tok2
  (x_Lok (x_st (I := xI) (xr_sipush (n := 20836) (z := 20836) (v := 20836) (x_dk dl_104_1_ok 46 rfl) (by decide) (by decide))))
  (x_Lok (x_st (I := xI) (xr_iconst (n := 4) (z := 4) (v := 4) (x_dk dl_104_1_ok 47 rfl) (by decide) (by decide))))))
  (x_Tok2
  (x_Lok (x_st (I := xI) (xr_iload_n (i := 1) (x_dk dl_104_1_ok 48 rfl))))
  (x_Tok2
  (x_Lok (x_st (I := xI) (xr_imul (x_dk dl_104_1_ok 49 rfl))))
  (x_Lok (x_st (I := xI) (xr_iadd (x_dk dl_104_1_ok 50 rfl))))))))
  (x_Tok2
  (x_Tok2
  (x_Tok2
  (x_Lok (x_st (I := xI) (xr_iconst (n := 1) (z := 1) (v := 1) (x_dk dl_104_1_ok 51 rfl) (by decide) (by decide))))
  (x_Tok2
  (x_Lok (x_st (I := xI) (xr_iadd (x_dk dl_104_1_ok 52 rfl))))
  (x_Lok (x_st (I := xI) (xr_iconst (n := 1) (z := 1) (v := 1) (x_dk dl_104_1_ok 53 rfl) (by decide) (by decide))))))
  (x_Tok2
  (x_Lok (x_st (I := xI) (xr_iastore (x_dk dl_104_1_ok 54 rfl))))
  (x_Tok2
  (x_Lok (x_st (I := xI) (xr_aload_n (i := 0) (x_dk dl_104_1_ok 55 rfl))))
  (x_Lok (x_st (I := xI) (xr_getf (ci := 12) (k := 51) (ix := 137) (N := 119) (C := RX12) (T := TX12) rfl in_X12 (by decide) (in_t9 (List.mem_of_getElem? (i := 166) rfl) rfl) (x_dk dl_104_1_ok 56 rfl)))))))
  (x_Tok2
  (x_Tok2
  (x_Lok (x_st (I := xI) (xr_iload_n (i := 1) (x_dk dl_104_1_ok 57 rfl))))
  (x_Tok2
  (x_Lok (x_st (I := xI) (xr_iconst (n := 0) (z := 0) (v := 0) (x_dk dl_104_1_ok 58 rfl) (by decide) (by decide))))
  (x_Lok (x_st (I := xI) (xr_bastore (x_dk dl_104_1_ok 59 rfl))))))
  (x_Tok2
  (x_Lok (x_st (I := xI) (xr_iinc (i := 1) (n := 1) (x_dk dl_104_1_ok 60 rfl) (by decide +kernel) (by decide))))
  (x_Tok2
  (x_Lok (x_st (I := xI) (xr_goto (off := (-55)) (tg := 198) (x_dk dl_104_1_ok 61 rfl) (by decide))))
  (x_Lok (x_st (I := xI) (xr_iconst (n := 0) (z := 0) (v := 0) (x_dk dl_104_1_ok 62 rfl) (by decide) (by decide)))))))))
def tb_104_163 : Nat → xE := (x_T 277 (x_T 265 (x_T 259 (x_T 257 (x_L 257 (0, xi_stor 1 0 258, 0, 0)) (x_T 258 (x_L 258 (0, xi_load 1 0 259, 0, 0)) (x_L 259 (0, xi_push (0, 64, 64) 261, 0, 0)))) (x_T 261 (x_L 261 (0, xi_if2 3 277 264, 0, 0)) (x_T 264 (x_L 264 (0, xi_load 0 2 265, 0, 0)) (x_L 265 (0, xi_getf 12 52 268, 0, 0))))) (x_T 270 (x_T 268 (x_L 268 (0, xi_load 1 0 269, 0, 0)) (x_T 269 (x_L 269 (0, xi_push (0, (-1), (-1)) 270, 0, 0)) (x_L 270 (0, xi_ast false 271, 0, 0)))) (x_T 271 (x_L 271 (0, xi_inc 1 1 274, 0, 0)) (x_T 274 (x_L 274 (0, xi_goto 258, 0, 0)) (x_L 277 (0, xi_push (0, 0, 0) 278, 0, 0)))))) (x_T 287 (x_T 280 (x_T 278 (x_L 278 (0, xi_stor 1 0 279, 0, 0)) (x_T 279 (x_L 279 (3, xi_load 1 0 280, 1, 0)) (x_L 280 (0, xi_push (0, 448, 448) 283, 0, 0)))) (x_T 283 (x_L 283 (0, xi_if2 3 299 286, 0, 0)) (x_T 286 (x_L 286 (0, xi_load 0 2 287, 0, 0)) (x_L 287 (0, xi_getf 12 29 290, 0, 0))))) (x_T 292 (x_T 290 (x_L 290 (0, xi_load 1 0 291, 0, 0)) (x_T 291 (x_L 291 (0, xi_push (0, 0, 0) 292, 0, 0)) (x_L 292 (0, xi_ast true 293, 0, 0)))) (x_T 293 (x_L 293 (0, xi_incT 1 296, 0, 0)) (x_T 296 (x_L 296 (0, xi_goto 279, 0, 0)) (x_L 299 (1, x_nof, 0, 0)))))))
set_option maxRecDepth 20000 in
set_option maxHeartbeats 4000000 in
theorem tb_104_163_ok (K : xKx) (hK : x_KP K) : ∀ pc, x_EOq cls K xI m_104 pc (tb_104_163 pc) :=
  (x_Tok2
  (x_Tok2
  (x_Tok2
  (x_Tok2
  (x_Lok (x_st (I := xI) (xr_istore_n (i := 1) (x_dk dl_104_1_ok 63 rfl) (by decide +kernel))))
  (x_Tok2
  (x_Lok (x_st (I := xI) (xr_iload_n (i := 1) (x_dk dl_104_1_ok 64 rfl))))
  (x_Lok (x_st (I := xI) (xr_bipush (n := 64) (z := 64) (v := 64) (x_dk dl_104_1_ok 65 rfl) (by decide) (by decide))))))
  (x_Tok2
  (x_Lok (x_st (I := xI) (xr_icmpge (off := 16) (tg := 277) (x_dk dl_104_1_ok 66 rfl) (by decide))))
  (x_Tok2
  (x_Lok (x_st (I := xI) (xr_aload_n (i := 0) (x_dk dl_104_1_ok 67 rfl))))
  (x_Lok (x_st (I := xI) (xr_getf (ci := 12) (k := 52) (ix := 140) (N := 119) (C := RX12) (T := TX12) rfl in_X12 (by decide) (in_t9 (List.mem_of_getElem? (i := 167) rfl) rfl) (x_dk dl_104_1_ok 68 rfl)))))))
  (x_Tok2
  (x_Tok2
  (x_Lok (x_st (I := xI) (xr_iload_n (i := 1) (x_dk dl_104_1_ok 69 rfl))))
  (x_Tok2
  (x_Lok (x_st (I := xI) (xr_iconst (n := (-1)) (z := (-1)) (v := (-1)) (x_dk dl_104_1_ok 70 rfl) (by decide) (by decide))))
  (x_Lok (x_st (I := xI) (xr_iastore (x_dk dl_104_1_ok 71 rfl))))))
  (x_Tok2
  (x_Lok (x_st (I := xI) (xr_iinc (i := 1) (n := 1) (x_dk dl_104_1_ok 72 rfl) (by decide +kernel) (by decide))))
  (x_Tok2
  (x_Lok (x_st (I := xI) (xr_goto (off := (-16)) (tg := 258) (x_dk dl_104_1_ok 73 rfl) (by decide))))
  (x_Lok (x_st (I := xI) (xr_iconst (n := 0) (z := 0) (v := 0) (x_dk dl_104_1_ok 74 rfl) (by decide) (by decide))))))))
  (x_Tok2
  (x_Tok2
  (x_Tok2
  (x_Lok (x_st (I := xI) (xr_istore_n (i := 1) (x_dk dl_104_1_ok 75 rfl) (by decide +kernel))))
  (x_Tok2
  (x_Lok (x_lo (I := xI) (L := 1) (xr_iload_n (i := 1) (x_dk dl_104_1_ok 76 rfl))))
  (x_Lok (x_st (I := xI) (xr_sipush (n := 448) (z := 448) (v := 448) (x_dk dl_104_1_ok 77 rfl) (by decide) (by decide))))))
  (x_Tok2
  (x_Lok (x_st (I := xI) (xr_icmpge (off := 16) (tg := 299) (x_dk dl_104_1_ok 78 rfl) (by decide))))
  (x_Tok2
  (x_Lok (x_st (I := xI) (xr_aload_n (i := 0) (x_dk dl_104_1_ok 79 rfl))))
  (x_Lok (x_st (I := xI) (xr_getf (ci := 12) (k := 29) (ix := 83) (N := 119) (C := RX12) (T := TX12) rfl in_X12 (by decide) (in_t9 (List.mem_of_getElem? (i := 144) rfl) rfl) (x_dk dl_104_1_ok 80 rfl)))))))
  (x_Tok2
  (x_Tok2
  (x_Lok (x_st (I := xI) (xr_iload_n (i := 1) (x_dk dl_104_1_ok 81 rfl))))
  (x_Tok2
  (x_Lok (x_st (I := xI) (xr_iconst (n := 0) (z := 0) (v := 0) (x_dk dl_104_1_ok 82 rfl) (by decide) (by decide))))
  (x_Lok (x_st (I := xI) (xr_bastore (x_dk dl_104_1_ok 83 rfl))))))
  (x_Tok2
  (x_Lok (x_st (I := xI) (xr_iincT (i := 1) (x_hev hK) (x_dk dl_104_1_ok 84 rfl) (by decide +kernel))))
  (x_Tok2
  (x_Lok (x_st (I := xI) (xr_goto (off := (-17)) (tg := 279) (x_dk dl_104_1_ok 85 rfl) (by decide))))
  (x_Lok (x_rt (I := xI) (k := 0) ⟨(x_dk dl_104_1_ok 86 rfl), rfl⟩)))))))
def tb_104 : Nat → xE := (x_T 144 (x_T 74 (x_T 36 tb_104_0 tb_104_23) (x_T 109 tb_104_46 tb_104_69)) (x_T 223 (x_T 182 tb_104_93 tb_104_116) (x_T 256 tb_104_140 tb_104_163)))
theorem tb_104_ok (K : xKx) (hK : x_KP K) : ∀ pc, x_EOq cls K xI m_104 pc (tb_104 pc) := (x_Tok2 ((x_Tok2 ((x_Tok2 (tb_104_0_ok K hK) (tb_104_23_ok K hK))) ((x_Tok2 (tb_104_46_ok K hK) (tb_104_69_ok K hK))))) ((x_Tok2 ((x_Tok2 (tb_104_93_ok K hK) (tb_104_116_ok K hK))) ((x_Tok2 (tb_104_140_ok K hK) (tb_104_163_ok K hK))))))
def dl_105_0 : List (Nat × Instr × Nat) := [(0, .bipush 16, 2), (2, .bipush 36, 2), (4, .iload_n 0, 1), (5, .imul, 1), (6, .iadd, 1), (7, .ireturn, 1)]
set_option maxRecDepth 20000 in
theorem dl_105_0_ok : dl_105_0.all (fun q => decide (decode prog_14_method_4_code q.1 = .ok (q.2.1, q.2.2))) = true := by decide +kernel
def tb_105_0 : Nat → xE := (x_T 4 (x_T 0 (x_L 0 (0, xi_push (0, 16, 16) 2, 0, 0)) (x_T 2 (x_L 2 (0, xi_push (0, 36, 36) 4, 0, 0)) (x_L 4 (0, xi_load 0 0 5, 0, 0)))) (x_T 5 (x_L 5 (0, xi_bin xF_mul 6, 0, 0)) (x_T 6 (x_L 6 (0, xi_bin xF_add 7, 0, 0)) (x_L 7 (1, x_nof, 1, 0)))))
set_option maxRecDepth 20000 in
set_option maxHeartbeats 4000000 in
theorem tb_105_0_ok (K : xKx) (hK : x_KP K) : ∀ pc, x_EOq cls K xI m_105 pc (tb_105_0 pc) :=
  (x_Tok2
  (x_Tok2
  (x_Lok (x_st (I := xI) (xr_bipush (n := 16) (z := 16) (v := 16) (x_dk dl_105_0_ok 0 rfl) (by decide) (by decide))))
  (x_Tok2
  (x_Lok (x_st (I := xI) (xr_bipush (n := 36) (z := 36) (v := 36) (x_dk dl_105_0_ok 1 rfl) (by decide) (by decide))))
  (x_Lok (x_st (I := xI) (xr_iload_n (i := 0) (x_dk dl_105_0_ok 2 rfl))))))
  (x_Tok2
  (x_Lok (x_st (I := xI) (xr_imul (x_dk dl_105_0_ok 3 rfl))))
  (x_Tok2
  (x_Lok (x_st (I := xI) (xr_iadd (x_dk dl_105_0_ok 4 rfl))))
  (x_Lok (x_rt (I := xI) (k := 1) ⟨(x_dk dl_105_0_ok 5 rfl), rfl⟩)))))
def tb_105 : Nat → xE := tb_105_0
theorem tb_105_ok (K : xKx) (hK : x_KP K) : ∀ pc, x_EOq cls K xI m_105 pc (tb_105 pc) := tb_105_0_ok K hK
def dl_106_0 : List (Nat × Instr × Nat) := [(0, .sipush 416, 3), (3, .sipush 1260, 3), (6, .iload_n 0, 1), (7, .imul, 1), (8, .iadd, 1), (9, .ireturn, 1)]
set_option maxRecDepth 20000 in
theorem dl_106_0_ok : dl_106_0.all (fun q => decide (decode prog_14_method_5_code q.1 = .ok (q.2.1, q.2.2))) = true := by decide +kernel
def tb_106_0 : Nat → xE := (x_T 6 (x_T 0 (x_L 0 (0, xi_push (0, 416, 416) 3, 0, 0)) (x_T 3 (x_L 3 (0, xi_push (0, 1260, 1260) 6, 0, 0)) (x_L 6 (0, xi_load 0 0 7, 0, 0)))) (x_T 7 (x_L 7 (0, xi_bin xF_mul 8, 0, 0)) (x_T 8 (x_L 8 (0, xi_bin xF_add 9, 0, 0)) (x_L 9 (1, x_nof, 1, 0)))))
set_option maxRecDepth 20000 in
set_option maxHeartbeats 4000000 in
theorem tb_106_0_ok (K : xKx) (hK : x_KP K) : ∀ pc, x_EOq cls K xI m_106 pc (tb_106_0 pc) :=
  (x_Tok2
  (x_Tok2
  (x_Lok (x_st (I := xI) (xr_sipush (n := 416) (z := 416) (v := 416) (x_dk dl_106_0_ok 0 rfl) (by decide) (by decide))))
  (x_Tok2
  (x_Lok (x_st (I := xI) (xr_sipush (n := 1260) (z := 1260) (v := 1260) (x_dk dl_106_0_ok 1 rfl) (by decide) (by decide))))
  (x_Lok (x_st (I := xI) (xr_iload_n (i := 0) (x_dk dl_106_0_ok 2 rfl))))))
  (x_Tok2
  (x_Lok (x_st (I := xI) (xr_imul (x_dk dl_106_0_ok 3 rfl))))
  (x_Tok2
  (x_Lok (x_st (I := xI) (xr_iadd (x_dk dl_106_0_ok 4 rfl))))
  (x_Lok (x_rt (I := xI) (k := 1) ⟨(x_dk dl_106_0_ok 5 rfl), rfl⟩)))))
def tb_106 : Nat → xE := tb_106_0
theorem tb_106_ok (K : xKx) (hK : x_KP K) : ∀ pc, x_EOq cls K xI m_106 pc (tb_106 pc) := tb_106_0_ok K hK
def dl_107_0 : List (Nat × Instr × Nat) := [(0, .iload_n 1, 1), (1, .i2l, 1), (2, .lconst 0, 1), (3, .aload_n 0, 1), (4, .getfield 269, 3), (7, .iconst 1, 1), (8, .isub, 1), (9, .i2l, 1), (10, .invokestatic 301, 3), (13, .ireturn, 1)]
set_option maxRecDepth 20000 in
theorem dl_107_0_ok : dl_107_0.all (fun q => decide (decode prog_14_method_6_code q.1 = .ok (q.2.1, q.2.2))) = true := by decide +kernel
def tb_107_0 : Nat → xE := (x_T 4 (x_T 1 (x_T 0 (x_L 0 (0, xi_load 1 0 1, 0, 0)) (x_L 1 (0, xi_i2l 2, 0, 0))) (x_T 2 (x_L 2 (0, xi_push (4, 0, 0) 3, 0, 0)) (x_T 3 (x_L 3 (0, xi_load 0 2 4, 0, 0)) (x_L 4 (0, xi_getf 12 10 7, 0, 0))))) (x_T 8 (x_T 7 (x_L 7 (0, xi_push (0, 1, 1) 8, 0, 0)) (x_L 8 (0, xi_bin xF_sub 9, 0, 0))) (x_T 9 (x_L 9 (0, xi_i2l 10, 0, 0)) (x_T 10 (x_L 10 (2, x_nof, 103, 3)) (x_L 13 (1, x_nof, 4, 0))))))
set_option maxRecDepth 20000 in
set_option maxHeartbeats 4000000 in
theorem tb_107_0_ok (K : xKx) (hK : x_KP K) : ∀ pc, x_EOq cls K xI m_107 pc (tb_107_0 pc) :=
  (x_Tok2
  (x_Tok2
  (x_Tok2
  (x_Lok (x_st (I := xI) (xr_iload_n (i := 1) (x_dk dl_107_0_ok 0 rfl))))
  (x_Lok (x_st (I := xI) (xr_i2l (x_dk dl_107_0_ok 1 rfl)))))
  (x_Tok2
  (x_Lok (x_st (I := xI) (xr_lconst (n := 0) (z := 0) (v := 0) (x_dk dl_107_0_ok 2 rfl) (by decide) (by decide))))
  (x_Tok2
  (x_Lok (x_st (I := xI) (xr_aload_n (i := 0) (x_dk dl_107_0_ok 3 rfl))))
  (x_Lok (x_st (I := xI) (xr_getf (ci := 12) (k := 10) (ix := 269) (N := 119) (C := RX12) (T := TX12) rfl in_X12 (by decide) (in_t9 (List.mem_of_getElem? (i := 125) rfl) rfl) (x_dk dl_107_0_ok 4 rfl)))))))
  (x_Tok2
  (x_Tok2
  (x_Lok (x_st (I := xI) (xr_iconst (n := 1) (z := 1) (v := 1) (x_dk dl_107_0_ok 5 rfl) (by decide) (by decide))))
  (x_Lok (x_st (I := xI) (xr_isub (x_dk dl_107_0_ok 6 rfl)))))
  (x_Tok2
  (x_Lok (x_st (I := xI) (xr_i2l (x_dk dl_107_0_ok 7 rfl))))
  (x_Tok2
  (x_Lok (x_ca (I := xI) (q' := m_103) rfl (xr_callS (q' := m_103) (ix := 301) (n := 3) (in_t11 (List.mem_of_getElem? (i := 7) rfl) rfl) good_w (in_t1 (List.mem_of_getElem? (i := 14) rfl) rfl) (in_t11 (List.mem_of_getElem? (i := 5) rfl) rfl) (in_t11 (List.mem_of_getElem? (i := 6) rfl) rfl) (by decide +kernel) (by decide +kernel) (x_dk dl_107_0_ok 8 rfl))))
  (x_Lok (x_rt (I := xI) (k := 4) ⟨(x_dk dl_107_0_ok 9 rfl), rfl⟩))))))
def tb_107 : Nat → xE := tb_107_0
theorem tb_107_ok (K : xKx) (hK : x_KP K) : ∀ pc, x_EOq cls K xI m_107 pc (tb_107 pc) := tb_107_0_ok K hK
def dl_108_0 : List (Nat × Instr × Nat) := [(0, .aload_n 0, 1), (1, .iload_n 1, 1), (2, .invokevirtual 305, 3), (5, .ifCond .eq 25, 3), (30, .iconst 0, 1), (31, .ireturn, 1)]
set_option maxRecDepth 20000 in
theorem dl_108_0_ok : dl_108_0.all (fun q => decide (decode prog_14_method_7_code q.1 = .ok (q.2.1, q.2.2))) = true := by decide +kernel
def tb_108_0 : Nat → xE := (x_T 2 (x_T 0 (x_L 0 (0, xi_load 0 2 1, 0, 0)) (x_T 1 (x_L 1 (0, xi_load 1 0 2, 0, 0)) (x_L 2 (2, x_nof, 107, 2)))) (x_T 5 (x_L 5 (0, xi_if1 0 30 8, 0, 0)) (x_T 30 (x_L 30 (0, xi_push (0, 0, 0) 31, 0, 0)) (x_L 31 (1, x_nof, 4, 0)))))
set_option maxRecDepth 20000 in
set_option maxHeartbeats 4000000 in
theorem tb_108_0_ok (K : xKx) (hK : x_KP K) : ∀ pc, x_EOq cls K xI m_108 pc (tb_108_0 pc) :=
  (x_Tok2
  (x_Tok2
  (x_Lok (x_st (I := xI) (xr_aload_n (i := 0) (x_dk dl_108_0_ok 0 rfl))))
  (x_Tok2
  (x_Lok (x_st (I := xI) (xr_iload_n (i := 1) (x_dk dl_108_0_ok 1 rfl))))
  (x_Lok (x_ca (I := xI) (q' := m_107) rfl (xr_callV (q' := m_107) (ix := 305) (n := 1) (in_t11 (List.mem_of_getElem? (i := 27) rfl) rfl) good_w (in_t1 (List.mem_of_getElem? (i := 14) rfl) rfl) (in_t11 (List.mem_of_getElem? (i := 24) rfl) rfl) (in_t11 (List.mem_of_getElem? (i := 26) rfl) rfl) (in_s8 (List.mem_of_getElem? (i := 2) rfl)) (by decide +kernel) (by decide +kernel) (by decide +kernel) (x_dk dl_108_0_ok 2 rfl))))))
  (x_Tok2
  (x_Lok (x_st (I := xI) (xr_ifeq (off := 25) (tg := 30) (x_dk dl_108_0_ok 3 rfl) (by decide))))
  (x_Tok2
  (x_Lok (x_st (I := xI) (xr_iconst (n := 0) (z := 0) (v := 0) (x_dk dl_108_0_ok 4 rfl) (by decide) (by decide))))
  (x_Lok (x_rt (I := xI) (k := 4) ⟨(x_dk dl_108_0_ok 5 rfl), rfl⟩)))))
def tb_108 : Nat → xE := tb_108_0
theorem tb_108_ok (K : xKx) (hK : x_KP K) : ∀ pc, x_EOq cls K xI m_108 pc (tb_108 pc) := tb_108_0_ok K hK
def dl_109_0 : List (Nat × Instr × Nat) := [(0, .iload_n 0, 1), (1, .i2l, 1), (2, .ldc2_w 309, 3), (5, .ldc2_w 311, 3), (8, .invokestatic 301, 3), (11, .ifCond .eq 21, 3), (14, .iload_n 1, 1), (15, .i2l, 1), (16, .ldc2_w 309, 3), (19, .ldc2_w 311, 3), (22, .invokestatic 301, 3), (25, .ifCond .eq 7, 3), (28, .iconst 1, 1), (29, .goto 4, 3), (32, .iconst 0, 1), (33, .ireturn, 1)]
set_option maxRecDepth 20000 in
theorem dl_109_0_ok : dl_109_0.all (fun q => decide (decode prog_14_method_8_code q.1 = .ok (q.2.1, q.2.2))) = true := by decide +kernel
def tb_109_0 : Nat → xE := (x_T 15 (x_T 5 (x_T 1 (x_T 0 (x_L 0 (0, xi_load 0 0 1, 0, 0)) (x_L 1 (0, xi_i2l 2, 0, 0))) (x_T 2 (x_L 2 (0, xi_push (4, (-16000), (-16000)) 5, 0, 0)) (x_L 5 (0, xi_push (4, 16000, 16000) 8, 0, 0)))) (x_T 11 (x_T 8 (x_L 8 (2, x_nof, 103, 3)) (x_L 11 (0, xi_if1 0 32 14, 0, 0))) (x_T 14 (x_L 14 (0, xi_load 1 0 15, 0, 0)) (x_L 15 (0, xi_i2l 16, 0, 0))))) (x_T 25 (x_T 19 (x_T 16 (x_L 16 (0, xi_push (4, (-16000), (-16000)) 19, 0, 0)) (x_L 19 (0, xi_push (4, 16000, 16000) 22, 0, 0))) (x_T 22 (x_L 22 (2, x_nof, 103, 3)) (x_L 25 (0, xi_if1 0 32 28, 0, 0)))) (x_T 29 (x_T 28 (x_L 28 (0, xi_push (0, 1, 1) 29, 0, 0)) (x_L 29 (0, xi_goto 33, 0, 0))) (x_T 32 (x_L 32 (0, xi_push (0, 0, 0) 33, 0, 0)) (x_L 33 (1, x_nof, 4, 0))))))
set_option maxRecDepth 20000 in
set_option maxHeartbeats 4000000 in
theorem tb_109_0_ok (K : xKx) (hK : x_KP K) : ∀ pc, x_EOq cls K xI m_109 pc (tb_109_0 pc) :=
  (x_Tok2
  (x_Tok2
  (x_Tok2
  (x_Tok2
  (x_Lok (x_st (I := xI) (xr_iload_n (i := 0) (x_dk dl_109_0_ok 0 rfl))))
  (x_Lok (x_st (I := xI) (xr_i2l (x_dk dl_109_0_ok 1 rfl)))))
  (x_Tok2
  (x_Lok (x_st (I := xI) (xr_ldc2 (ix := 309) (z := (-16000)) (v := (-16000)) (x_dk dl_109_0_ok 2 rfl) (in_t11 (List.mem_of_getElem? (i := 49) rfl) rfl) (by decide))))
  (x_Lok (x_st (I := xI) (xr_ldc2 (ix := 311) (z := 16000) (v := 16000) (x_dk dl_109_0_ok 3 rfl) (in_t11 (List.mem_of_getElem? (i := 50) rfl) rfl) (by decide))))))
  (x_Tok2
  (x_Tok2
  (x_Lok (x_ca (I := xI) (q' := m_103) rfl (xr_callS (q' := m_103) (ix := 301) (n := 3) (in_t11 (List.mem_of_getElem? (i := 7) rfl) rfl) good_w (in_t1 (List.mem_of_getElem? (i := 14) rfl) rfl) (in_t11 (List.mem_of_getElem? (i := 5) rfl) rfl) (in_t11 (List.mem_of_getElem? (i := 6) rfl) rfl) (by decide +kernel) (by decide +kernel) (x_dk dl_109_0_ok 4 rfl))))
  (x_Lok (x_st (I := xI) (xr_ifeq (off := 21) (tg := 32) (x_dk dl_109_0_ok 5 rfl) (by decide)))))
  (x_Tok2
  (x_Lok (x_st (I := xI) (xr_iload_n (i := 1) (x_dk dl_109_0_ok 6 rfl))))
  (x_Lok (x_st (I := xI) (xr_i2l (x_dk dl_109_0_ok 7 rfl)))))))
  (x_Tok2
  (x_Tok2
  (x_Tok2
  (x_Lok (x_st (I := xI) (xr_ldc2 (ix := 309) (z := (-16000)) (v := (-16000)) (x_dk dl_109_0_ok 8 rfl) (in_t11 (List.mem_of_getElem? (i := 49) rfl) rfl) (by decide))))
  (x_Lok (x_st (I := xI) (xr_ldc2 (ix := 311) (z := 16000) (v := 16000) (x_dk dl_109_0_ok 9 rfl) (in_t11 (List.mem_of_getElem? (i := 50) rfl) rfl) (by decide)))))
  (x_Tok2
  (x_Lok (x_ca (I := xI) (q' := m_103) rfl (xr_callS (q' := m_103) (ix := 301) (n := 3) (in_t11 (List.mem_of_getElem? (i := 7) rfl) rfl) good_w (in_t1 (List.mem_of_getElem? (i := 14) rfl) rfl) (in_t11 (List.mem_of_getElem? (i := 5) rfl) rfl) (in_t11 (List.mem_of_getElem? (i := 6) rfl) rfl) (by decide +kernel) (by decide +kernel) (x_dk dl_109_0_ok 10 rfl))))
  (x_Lok (x_st (I := xI) (xr_ifeq (off := 7) (tg := 32) (x_dk dl_109_0_ok 11 rfl) (by decide))))))
  (x_Tok2
  (x_Tok2
  (x_Lok (x_st (I := xI) (xr_iconst (n := 1) (z := 1) (v := 1) (x_dk dl_109_0_ok 12 rfl) (by decide) (by decide))))
  (x_Lok (x_st (I := xI) (xr_goto (off := 4) (tg := 33) (x_dk dl_109_0_ok 13 rfl) (by decide)))))
  (x_Tok2
  (x_Lok (x_st (I := xI) (xr_iconst (n := 0) (z := 0) (v := 0) (x_dk dl_109_0_ok 14 rfl) (by decide) (by decide))))
  (x_Lok (x_rt (I := xI) (k := 4) ⟨(x_dk dl_109_0_ok 15 rfl), rfl⟩))))))
def tb_109 : Nat → xE := tb_109_0
theorem tb_109_ok (K : xKx) (hK : x_KP K) : ∀ pc, x_EOq cls K xI m_109 pc (tb_109 pc) := tb_109_0_ok K hK
def dl_110_0 : List (Nat × Instr × Nat) := [(0, .iload_n 0, 1), (1, .iload_n 1, 1), (2, .invokestatic 313, 3), (5, .ifCond .eq 39, 3), (8, .iload_n 2, 1), (9, .ifCond .lt 35, 3), (12, .iload_n 3, 1), (13, .ifCond .lt 31, 3), (16, .iload_n 0, 1), (17, .i2l, 1), (18, .iload_n 2, 1), (19, .i2l, 1), (20, .ladd, 1), (21, .ldc2_w 311, 3), (24, .lcmp, 1), (25, .ifCond .gt 19, 3), (28, .iload_n 1, 1), (29, .i2l, 1), (30, .iload_n 3, 1), (31, .i2l, 1), (32, .ladd, 1), (33, .ldc2_w 311, 3), (36, .lcmp, 1), (37, .ifCond .gt 7, 3), (40, .iconst 1, 1), (41, .goto 4, 3), (44, .iconst 0, 1), (45, .ireturn, 1)]
set_option maxRecDepth 20000 in
theorem dl_110_0_ok : dl_110_0.all (fun q => decide (decode prog_14_method_9_code q.1 = .ok (q.2.1, q.2.2))) = true := by decide +kernel
def tb_110_0 : Nat → xE := (x_T 20 (x_T 9 (x_T 2 (x_T 0 (x_L 0 (0, xi_load 0 0 1, 0, 0)) (x_T 1 (x_L 1 (0, xi_load 1 0 2, 0, 0)) (x_L 2 (2, x_nof, 109, 2)))) (x_T 5 (x_L 5 (0, xi_if1 0 44 8, 0, 0)) (x_T 8 (x_L 8 (0, xi_load 2 0 9, 0, 0)) (x_L 9 (0, xi_if1 2 44 12, 0, 0))))) (x_T 16 (x_T 12 (x_L 12 (0, xi_load 3 0 13, 0, 0)) (x_T 13 (x_L 13 (0, xi_if1 2 44 16, 0, 0)) (x_L 16 (0, xi_load 0 0 17, 0, 0)))) (x_T 18 (x_T 17 (x_L 17 (0, xi_i2l 18, 0, 0)) (x_L 18 (0, xi_load 2 0 19, 0, 0))) (x_T 19 (x_L 19 (0, xi_i2l 20, 0, 0)) (x_L 20 (0, xi_aTL (6, 1, 0) (6, 3, 0) 6 21, 0, 0)))))) (x_T 31 (x_T 28 (x_T 21 (x_L 21 (0, xi_push (4, 16000, 16000) 24, 0, 0)) (x_T 24 (x_L 24 (0, xi_lif 4 44 28, 0, 0)) (x_L 28 (0, xi_load 1 0 29, 0, 0)))) (x_T 29 (x_L 29 (0, xi_i2l 30, 0, 0)) (x_T 30 (x_L 30 (0, xi_load 3 0 31, 0, 0)) (x_L 31 (0, xi_i2l 32, 0, 0))))) (x_T 36 (x_T 32 (x_L 32 (0, xi_aTL (6, 2, 0) (6, 4, 0) 7 33, 0, 0)) (x_T 33 (x_L 33 (0, xi_push (4, 16000, 16000) 36, 0, 0)) (x_L 36 (0, xi_lif 4 44 40, 0, 0)))) (x_T 41 (x_T 40 (x_L 40 (0, xi_push (0, 1, 1) 41, 0, 0)) (x_L 41 (0, xi_goto 45, 0, 0))) (x_T 44 (x_L 44 (0, xi_push (0, 0, 0) 45, 0, 0)) (x_L 45 (1, x_nof, 4, 0)))))))
set_option maxRecDepth 20000 in
set_option maxHeartbeats 4000000 in
theorem tb_110_0_ok (K : xKx) (hK : x_KP K) : ∀ pc, x_EOq cls K xI m_110 pc (tb_110_0 pc) :=
  (x_Tok2
  (x_Tok2
  (x_Tok2
  (x_Tok2
  (x_Lok (x_st (I := xI) (xr_iload_n (i := 0) (x_dk dl_110_0_ok 0 rfl))))
  (x_Tok2
  (x_Lok (x_st (I := xI) (xr_iload_n (i := 1) (x_dk dl_110_0_ok 1 rfl))))
  (x_Lok (x_ca (I := xI) (q' := m_109) rfl (xr_callS (q' := m_109) (ix := 313) (n := 2) (in_t11 (List.mem_of_getElem? (i := 48) rfl) rfl) good_w (in_t1 (List.mem_of_getElem? (i := 14) rfl) rfl) (in_t11 (List.mem_of_getElem? (i := 46) rfl) rfl) (in_t11 (List.mem_of_getElem? (i := 47) rfl) rfl) (by decide +kernel) (by decide +kernel) (x_dk dl_110_0_ok 2 rfl))))))
  (x_Tok2
  (x_Lok (x_st (I := xI) (xr_ifeq (off := 39) (tg := 44) (x_dk dl_110_0_ok 3 rfl) (by decide))))
  (x_Tok2
  (x_Lok (x_st (I := xI) (xr_iload_n (i := 2) (x_dk dl_110_0_ok 4 rfl))))
  (x_Lok (x_st (I := xI) (xr_iflt (off := 35) (tg := 44) (x_dk dl_110_0_ok 5 rfl) (by decide)))))))
  (x_Tok2
  (x_Tok2
  (x_Lok (x_st (I := xI) (xr_iload_n (i := 3) (x_dk dl_110_0_ok 6 rfl))))
  (x_Tok2
  (x_Lok (x_st (I := xI) (xr_iflt (off := 31) (tg := 44) (x_dk dl_110_0_ok 7 rfl) (by decide))))
  (x_Lok (x_st (I := xI) (xr_iload_n (i := 0) (x_dk dl_110_0_ok 8 rfl))))))
  (x_Tok2
  (x_Tok2
  (x_Lok (x_st (I := xI) (xr_i2l (x_dk dl_110_0_ok 9 rfl))))
  (x_Lok (x_st (I := xI) (xr_iload_n (i := 2) (x_dk dl_110_0_ok 10 rfl)))))
  (x_Tok2
  (x_Lok (x_st (I := xI) (xr_i2l (x_dk dl_110_0_ok 11 rfl))))
  (x_Lok (x_st (I := xI) (xr_taddL (px := (6, 1, 0)) (py := (6, 3, 0)) (c := 6) (x_dk dl_110_0_ok 12 rfl) (x_hV2L hK rfl rfl (by decide) (fun f h => by unfold x_fR at h; show f 6 = f 1 + f 3; omega)))))))))
  (x_Tok2
  (x_Tok2
  (x_Tok2
  (x_Lok (x_st (I := xI) (xr_ldc2 (ix := 311) (z := 16000) (v := 16000) (x_dk dl_110_0_ok 13 rfl) (in_t11 (List.mem_of_getElem? (i := 50) rfl) rfl) (by decide))))
  (x_Tok2
  (x_Lok (x_st (I := xI) (xr_lifgt (off := 19) (tg := 44) (x_dk dl_110_0_ok 14 rfl) (x_dk dl_110_0_ok 15 rfl) (by decide))))
  (x_Lok (x_st (I := xI) (xr_iload_n (i := 1) (x_dk dl_110_0_ok 16 rfl))))))
  (x_Tok2
  (x_Lok (x_st (I := xI) (xr_i2l (x_dk dl_110_0_ok 17 rfl))))
  (x_Tok2
  (x_Lok (x_st (I := xI) (xr_iload_n (i := 3) (x_dk dl_110_0_ok 18 rfl))))
  (x_Lok (x_st (I := xI) (xr_i2l (x_dk dl_110_0_ok 19 rfl)))))))
  (x_Tok2
  (x_Tok2
  (x_Lok (x_st (I := xI) (xr_taddL (px := (6, 2, 0)) (py := (6, 4, 0)) (c := 7) (x_dk dl_110_0_ok 20 rfl) (x_hV2L hK rfl rfl (by decide) (fun f h => by unfold x_fR at h; show f 7 = f 2 + f 4; omega)))))
  (x_Tok2
  (x_Lok (x_st (I := xI) (xr_ldc2 (ix := 311) (z := 16000) (v := 16000) (x_dk dl_110_0_ok 21 rfl) (in_t11 (List.mem_of_getElem? (i := 50) rfl) rfl) (by decide))))
  (x_Lok (x_st (I := xI) (xr_lifgt (off := 7) (tg := 44) (x_dk dl_110_0_ok 22 rfl) (x_dk dl_110_0_ok 23 rfl) (by decide))))))
  (x_Tok2
  (x_Tok2
  (x_Lok (x_st (I := xI) (xr_iconst (n := 1) (z := 1) (v := 1) (x_dk dl_110_0_ok 24 rfl) (by decide) (by decide))))
  (x_Lok (x_st (I := xI) (xr_goto (off := 4) (tg := 45) (x_dk dl_110_0_ok 25 rfl) (by decide)))))
  (x_Tok2
  (x_Lok (x_st (I := xI) (xr_iconst (n := 0) (z := 0) (v := 0) (x_dk dl_110_0_ok 26 rfl) (by decide) (by decide))))
  (x_Lok (x_rt (I := xI) (k := 4) ⟨(x_dk dl_110_0_ok 27 rfl), rfl⟩)))))))
def tb_110 : Nat → xE := tb_110_0
theorem tb_110_ok (K : xKx) (hK : x_KP K) : ∀ pc, x_EOq cls K xI m_110 pc (tb_110 pc) := tb_110_0_ok K hK
def dl_111_0 : List (Nat × Instr × Nat) := [(0, .aload_n 0, 1), (1, .getfield 317, 3), (4, .bipush 20, 2), (6, .iadd, 1), (7, .sipush 4000, 3), (10, .if_icmp .le 6, 3), (16, .aload_n 0, 1), (17, .iload_n 1, 1), (18, .invokevirtual 320, 3), (21, .aload_n 0, 1), (22, .iload_n 2, 1), (23, .invokevirtual 320, 3), (26, .aload_n 0, 1), (27, .iload_n 3, 1), (28, .invokevirtual 320, 3), (31, .aload_n 0, 1), (32, .iload 4, 2), (34, .invokevirtual 320, 3), (37, .aload_n 0, 1), (38, .iload 5, 2), (40, .invokevirtual 320, 3), (43, .aload_n 0, 1), (44, .getfield 317, 3), (47, .ireturn, 1)]
set_option maxRecDepth 20000 in
theorem dl_111_0_ok : dl_111_0.all (fun q => decide (decode prog_14_method_10_code q.1 = .ok (q.2.1, q.2.2))) = true := by decide +kernel
def tb_111_0 : Nat → xE := (x_T 23 (x_T 10 (x_T 4 (x_T 0 (x_L 0 (0, xi_load 0 2 1, 0, 0)) (x_T 1 (x_L 1 (0, xi_getf 12 9 4, 0, 0)) (x_L 4 (0, xi_push (0, 20, 20) 6, 0, 0)))) (x_T 6 (x_L 6 (0, xi_bin xF_add 7, 0, 0)) (x_T 7 (x_L 7 (0, xi_push (0, 4000, 4000) 10, 0, 0)) (x_L 10 (0, xi_if2 5 16 13, 0, 0))))) (x_T 18 (x_T 16 (x_L 16 (0, xi_load 0 2 17, 0, 0)) (x_T 17 (x_L 17 (0, xi_load 1 0 18, 0, 0)) (x_L 18 (2, x_nof, 112, 2)))) (x_T 21 (x_L 21 (0, xi_load 0 2 22, 0, 0)) (x_T 22 (x_L 22 (0, xi_load 2 0 23, 0, 0)) (x_L 23 (2, x_nof, 112, 2)))))) (x_T 34 (x_T 28 (x_T 26 (x_L 26 (0, xi_load 0 2 27, 0, 0)) (x_T 27 (x_L 27 (0, xi_load 3 0 28, 0, 0)) (x_L 28 (2, x_nof, 112, 2)))) (x_T 31 (x_L 31 (0, xi_load 0 2 32, 0, 0)) (x_T 32 (x_L 32 (0, xi_load 4 0 34, 0, 0)) (x_L 34 (2, x_nof, 112, 2))))) (x_T 40 (x_T 37 (x_L 37 (0, xi_load 0 2 38, 0, 0)) (x_T 38 (x_L 38 (0, xi_load 5 0 40, 0, 0)) (x_L 40 (2, x_nof, 112, 2)))) (x_T 43 (x_L 43 (0, xi_load 0 2 44, 0, 0)) (x_T 44 (x_L 44 (0, xi_getf 12 9 47, 0, 0)) (x_L 47 (1, x_nof, 1, 0)))))))
set_option maxRecDepth 20000 in
set_option maxHeartbeats 4000000 in
theorem tb_111_0_ok (K : xKx) (hK : x_KP K) : ∀ pc, x_EOq cls K xI m_111 pc (tb_111_0 pc) :=
  (x_Tok2
  (x_Tok2
  (x_Tok2
  (x_Tok2
  (x_Lok (x_st (I := xI) (xr_aload_n (i := 0) (x_dk dl_111_0_ok 0 rfl))))
  (x_Tok2
  (x_Lok (x_st (I := xI) (xr_getf (ci := 12) (k := 9) (ix := 317) (N := 119) (C := RX12) (T := TX12) rfl in_X12 (by decide) (in_t9 (List.mem_of_getElem? (i := 124) rfl) rfl) (x_dk dl_111_0_ok 1 rfl))))
  (x_Lok (x_st (I := xI) (xr_bipush (n := 20) (z := 20) (v := 20) (x_dk dl_111_0_ok 2 rfl) (by decide) (by decide))))))
  (x_Tok2
  (x_Lok (x_st (I := xI) (xr_iadd (x_dk dl_111_0_ok 3 rfl))))
  (x_Tok2
  (x_Lok (x_st (I := xI) (xr_sipush (n := 4000) (z := 4000) (v := 4000) (x_dk dl_111_0_ok 4 rfl) (by decide) (by decide))))
  (x_Lok (x_st (I := xI) (xr_icmple (off := 6) (tg := 16) (x_dk dl_111_0_ok 5 rfl) (by decide)))))))
  (x_Tok2
  (x_Tok2
  (x_Lok (x_st (I := xI) (xr_aload_n (i := 0) (x_dk dl_111_0_ok 6 rfl))))
  (x_Tok2
  (x_Lok (x_st (I := xI) (xr_iload_n (i := 1) (x_dk dl_111_0_ok 7 rfl))))
  (x_Lok (x_ca (I := xI) (q' := m_112) rfl (xr_callV (q' := m_112) (ix := 320) (n := 1) (in_t11 (List.mem_of_getElem? (i := 0) rfl) rfl) good_w (in_t1 (List.mem_of_getElem? (i := 14) rfl) rfl) (in_t10 (List.mem_of_getElem? (i := 237) rfl) rfl) (in_t10 (List.mem_of_getElem? (i := 239) rfl) rfl) (in_s8 (List.mem_of_getElem? (i := 1) rfl)) (by decide +kernel) (by decide +kernel) (by decide +kernel) (x_dk dl_111_0_ok 8 rfl))))))
  (x_Tok2
  (x_Lok (x_st (I := xI) (xr_aload_n (i := 0) (x_dk dl_111_0_ok 9 rfl))))
  (x_Tok2
  (x_Lok (x_st (I := xI) (xr_iload_n (i := 2) (x_dk dl_111_0_ok 10 rfl))))
  (x_Lok (x_ca (I := xI) (q' := m_112) rfl (xr_callV (q' := m_112) (ix := 320) (n := 1) (in_t11 (List.mem_of_getElem? (i := 0) rfl) rfl) good_w (in_t1 (List.mem_of_getElem? (i := 14) rfl) rfl) (in_t10 (List.mem_of_getElem? (i := 237) rfl) rfl) (in_t10 (List.mem_of_getElem? (i := 239) rfl) rfl) (in_s8 (List.mem_of_getElem? (i := 1) rfl)) (by decide +kernel) (by decide +kernel) (by decide +kernel) (x_dk dl_111_0_ok 11 rfl))))))))
  (x_Tok2
  (x_Tok2
  (x_Tok2
  (x_Lok (x_st (I := xI) (xr_aload_n (i := 0) (x_dk dl_111_0_ok 12 rfl))))
  (x_Tok2
  (x_Lok (x_st (I := xI) (xr_iload_n (i := 3) (x_dk dl_111_0_ok 13 rfl))))
  (x_Lok (x_ca (I := xI) (q' := m_112) rfl (xr_callV (q' := m_112) (ix := 320) (n := 1) (in_t11 (List.mem_of_getElem? (i := 0) rfl) rfl) good_w (in_t1 (List.mem_of_getElem? (i := 14) rfl) rfl) (in_t10 (List.mem_of_getElem? (i := 237) rfl) rfl) (in_t10 (List.mem_of_getElem? (i := 239) rfl) rfl) (in_s8 (List.mem_of_getElem? (i := 1) rfl)) (by decide +kernel) (by decide +kernel) (by decide +kernel) (x_dk dl_111_0_ok 14 rfl))))))
  (x_Tok2
  (x_Lok (x_st (I := xI) (xr_aload_n (i := 0) (x_dk dl_111_0_ok 15 rfl))))
  (x_Tok2
  (x_Lok (x_st (I := xI) (xr_iload (i := 4) (x_dk dl_111_0_ok 16 rfl))))
  (x_Lok (x_ca (I := xI) (q' := m_112) rfl (xr_callV (q' := m_112) (ix := 320) (n := 1) (in_t11 (List.mem_of_getElem? (i := 0) rfl) rfl) good_w (in_t1 (List.mem_of_getElem? (i := 14) rfl) rfl) (in_t10 (List.mem_of_getElem? (i := 237) rfl) rfl) (in_t10 (List.mem_of_getElem? (i := 239) rfl) rfl) (in_s8 (List.mem_of_getElem? (i := 1) rfl)) (by decide +kernel) (by decide +kernel) (by decide +kernel) (x_dk dl_111_0_ok 17 rfl)))))))
  (x_Tok2
  (x_Tok2
  (x_Lok (x_st (I := xI) (xr_aload_n (i := 0) (x_dk dl_111_0_ok 18 rfl))))
  (x_Tok2
  (x_Lok (x_st (I := xI) (xr_iload (i := 5) (x_dk dl_111_0_ok 19 rfl))))
  (x_Lok (x_ca (I := xI) (q' := m_112) rfl (xr_callV (q' := m_112) (ix := 320) (n := 1) (in_t11 (List.mem_of_getElem? (i := 0) rfl) rfl) good_w (in_t1 (List.mem_of_getElem? (i := 14) rfl) rfl) (in_t10 (List.mem_of_getElem? (i := 237) rfl) rfl) (in_t10 (List.mem_of_getElem? (i := 239) rfl) rfl) (in_s8 (List.mem_of_getElem? (i := 1) rfl)) (by decide +kernel) (by decide +kernel) (by decide +kernel) (x_dk dl_111_0_ok 20 rfl))))))
  (x_Tok2
  (x_Lok (x_st (I := xI) (xr_aload_n (i := 0) (x_dk dl_111_0_ok 21 rfl))))
  (x_Tok2
  (x_Lok (x_st (I := xI) (xr_getf (ci := 12) (k := 9) (ix := 317) (N := 119) (C := RX12) (T := TX12) rfl in_X12 (by decide) (in_t9 (List.mem_of_getElem? (i := 124) rfl) rfl) (x_dk dl_111_0_ok 22 rfl))))
  (x_Lok (x_rt (I := xI) (k := 1) ⟨(x_dk dl_111_0_ok 23 rfl), rfl⟩)))))))
def tb_111 : Nat → xE := tb_111_0
theorem tb_111_ok (K : xKx) (hK : x_KP K) : ∀ pc, x_EOq cls K xI m_111 pc (tb_111 pc) := tb_111_0_ok K hK
def dl_112_0 : List (Nat × Instr × Nat) := [(0, .bipush 24, 2), (2, .istore_n 2, 1), (3, .iload_n 2, 1), (4, .ifCond .lt 32, 3), (7, .aload_n 0, 1), (8, .getfield 27, 3), (11, .aload_n 0, 1), (12, .getfield 317, 3), (15, .iload_n 1, 1), (16, .iload_n 2, 1), (17, .ishr, 1), (18, .i2b, 1), (19, .bastore, 1), (20, .aload_n 0, 1), (21, .dup, 1), (22, .getfield 317, 3), (25, .iconst 1, 1), (26, .iadd, 1), (27, .putfield 317, 3), (30, .iinc 2 (-8), 3), (33, .goto (-30), 3), (36, .return_, 1)]
set_option maxRecDepth 20000 in
theorem dl_112_0_ok : dl_112_0.all (fun q => decide (decode prog_14_method_11_code q.1 = .ok (q.2.1, q.2.2))) = true := by decide +kernel
def tb_112_0 : Nat → xE := (x_T 17 (x_T 7 (x_T 2 (x_T 0 (x_L 0 (0, xi_push (0, 24, 24) 2, 0, 0)) (x_L 2 (0, xi_stor 2 0 3, 0, 0))) (x_T 3 (x_L 3 (0, xi_load 2 0 4, 0, 0)) (x_T 4 (x_L 4 (0, xi_if1 2 36 7, 0, 0)) (x_L 7 (0, xi_load 0 2 8, 0, 0))))) (x_T 12 (x_T 8 (x_L 8 (0, xi_getf 12 8 11, 0, 0)) (x_T 11 (x_L 11 (0, xi_load 0 2 12, 0, 0)) (x_L 12 (0, xi_getf 12 9 15, 0, 0)))) (x_T 15 (x_L 15 (0, xi_load 1 0 16, 0, 0)) (x_T 16 (x_L 16 (0, xi_load 2 0 17, 0, 0)) (x_L 17 (0, xi_bin xF_any 18, 0, 0)))))) (x_T 22 (x_T 19 (x_T 18 (x_L 18 (0, xi_un xF_byte 19, 0, 0)) (x_L 19 (0, xi_ast true 20, 0, 0))) (x_T 20 (x_L 20 (0, xi_load 0 2 21, 0, 0)) (x_T 21 (x_L 21 (0, xi_stk xf_dup 22, 0, 0)) (x_L 22 (0, xi_getf 12 9 25, 0, 0))))) (x_T 27 (x_T 25 (x_L 25 (0, xi_push (0, 1, 1) 26, 0, 0)) (x_T 26 (x_L 26 (0, xi_bin xF_add 27, 0, 0)) (x_L 27 (0, xi_putf 12 9 0 30, 0, 0)))) (x_T 30 (x_L 30 (0, xi_inc 2 (-8) 33, 0, 0)) (x_T 33 (x_L 33 (0, xi_goto 3, 0, 0)) (x_L 36 (1, x_nof, 0, 0)))))))
set_option maxRecDepth 20000 in
set_option maxHeartbeats 4000000 in
theorem tb_112_0_ok (K : xKx) (hK : x_KP K) : ∀ pc, x_EOq cls K xI m_112 pc (tb_112_0 pc) :=
  (x_Tok2
  (x_Tok2
  (x_Tok2
  (x_Tok2
  (x_Lok (x_st (I := xI) (xr_bipush (n := 24) (z := 24) (v := 24) (x_dk dl_112_0_ok 0 rfl) (by decide) (by decide))))
  (x_Lok (x_st (I := xI) (xr_istore_n (i := 2) (x_dk dl_112_0_ok 1 rfl) (by decide +kernel)))))
  (x_Tok2
  (x_Lok (x_st (I := xI) (xr_iload_n (i := 2) (x_dk dl_112_0_ok 2 rfl))))
  (x_Tok2
  (x_Lok (x_st (I := xI) (xr_iflt (off := 32) (tg := 36) (x_dk dl_112_0_ok 3 rfl) (by decide))))
  (x_Lok (x_st (I := xI) (xr_aload_n (i := 0) (x_dk dl_112_0_ok 4 rfl)))))))
  (x_Tok2
  (x_Tok2
  (x_Lok (x_st (I := xI) (xr_getf (ci := 12) (k := 8) (ix := 27) (N := 119) (C := RX12) (T := TX12) rfl in_X12 (by decide) (in_t9 (List.mem_of_getElem? (i := 123) rfl) rfl) (x_dk dl_112_0_ok 5 rfl))))
  (x_Tok2
  (x_Lok (x_st (I := xI) (xr_aload_n (i := 0) (x_dk dl_112_0_ok 6 rfl))))
  (x_Lok (x_st (I := xI) (xr_getf (ci := 12) (k := 9) (ix := 317) (N := 119) (C := RX12) (T := TX12) rfl in_X12 (by decide) (in_t9 (List.mem_of_getElem? (i := 124) rfl) rfl) (x_dk dl_112_0_ok 7 rfl))))))
  (x_Tok2
  (x_Lok (x_st (I := xI) (xr_iload_n (i := 1) (x_dk dl_112_0_ok 8 rfl))))
  (x_Tok2
  (x_Lok (x_st (I := xI) (xr_iload_n (i := 2) (x_dk dl_112_0_ok 9 rfl))))
  (x_Lok (x_st (I := xI) (xr_ishr (x_dk dl_112_0_ok 10 rfl))))))))
  (x_Tok2
  (x_Tok2
  (x_Tok2
  (x_Lok (x_st (I := xI) (xr_i2b (x_dk dl_112_0_ok 11 rfl))))
  (x_Lok (x_st (I := xI) (xr_bastore (x_dk dl_112_0_ok 12 rfl)))))
  (x_Tok2
  (x_Lok (x_st (I := xI) (xr_aload_n (i := 0) (x_dk dl_112_0_ok 13 rfl))))
  (x_Tok2
  (x_Lok (x_st (I := xI) (xr_dup (x_dk dl_112_0_ok 14 rfl))))
  (x_Lok (x_st (I := xI) (xr_getf (ci := 12) (k := 9) (ix := 317) (N := 119) (C := RX12) (T := TX12) rfl in_X12 (by decide) (in_t9 (List.mem_of_getElem? (i := 124) rfl) rfl) (x_dk dl_112_0_ok 15 rfl)))))))
  (x_Tok2
  (x_Tok2
  (x_Lok (x_st (I := xI) (xr_iconst (n := 1) (z := 1) (v := 1) (x_dk dl_112_0_ok 16 rfl) (by decide) (by decide))))
  (x_Tok2
  (x_Lok (x_st (I := xI) (xr_iadd (x_dk dl_112_0_ok 17 rfl))))
  (x_Lok (x_st (I := xI) (xr_putf (ci := 12) (k := 9) (ix := 317) (N := 119) (fk := 0) (C := RX12) (T := TX12) (ty0 := tyX12) (ty := .int) rfl in_X12 tyX12_ok nmX12 (by decide) (in_t9 (List.mem_of_getElem? (i := 124) rfl) rfl) rfl rfl x_fit_int (x_dk dl_112_0_ok 18 rfl))))))
  (x_Tok2
  (x_Lok (x_st (I := xI) (xr_iinc (i := 2) (n := (-8)) (x_dk dl_112_0_ok 19 rfl) (by decide +kernel) (by decide))))
  (x_Tok2
  (x_Lok (x_st (I := xI) (xr_goto (off := (-30)) (tg := 3) (x_dk dl_112_0_ok 20 rfl) (by decide))))
  (x_Lok (x_rt (I := xI) (k := 0) ⟨(x_dk dl_112_0_ok 21 rfl), rfl⟩)))))))
def tb_112 : Nat → xE := tb_112_0
theorem tb_112_ok (K : xKx) (hK : x_KP K) : ∀ pc, x_EOq cls K xI m_112 pc (tb_112 pc) := tb_112_0_ok K hK
def dl_113_0 : List (Nat × Instr × Nat) := [(0, .iload_n 1, 1), (1, .i2l, 1), (2, .lconst 0, 1), (3, .aload_n 0, 1), (4, .getfield 317, 3), (7, .i2l, 1), (8, .invokestatic 301, 3), (11, .ifCond .ne 5, 3), (14, .iconst (-1), 1), (15, .ireturn, 1), (16, .aload_n 0, 1), (17, .dup, 1), (18, .getfield 317, 3), (21, .iload_n 1, 1), (22, .isub, 1), (23, .putfield 317, 3), (26, .aload_n 0, 1), (27, .getfield 317, 3), (30, .ireturn, 1)]
set_option maxRecDepth 20000 in
theorem dl_113_0_ok : dl_113_0.all (fun q => decide (decode prog_14_method_12_code q.1 = .ok (q.2.1, q.2.2))) = true := by decide +kernel
def tb_113_0 : Nat → xE := (x_T 14 (x_T 3 (x_T 1 (x_T 0 (x_L 0 (0, xi_load 1 0 1, 0, 0)) (x_L 1 (0, xi_i2l 2, 0, 0))) (x_T 2 (x_L 2 (0, xi_push (4, 0, 0) 3, 0, 0)) (x_L 3 (0, xi_load 0 2 4, 0, 0)))) (x_T 7 (x_T 4 (x_L 4 (0, xi_getf 12 9 7, 0, 0)) (x_L 7 (0, xi_i2l 8, 0, 0))) (x_T 8 (x_L 8 (2, x_nof, 103, 3)) (x_T 11 (x_L 11 (0, xi_if1 1 16 14, 0, 0)) (x_L 14 (0, xi_push (0, (-1), (-1)) 15, 0, 0)))))) (x_T 21 (x_T 16 (x_T 15 (x_L 15 (1, x_nof, 1, 0)) (x_L 16 (0, xi_load 0 2 17, 0, 0))) (x_T 17 (x_L 17 (0, xi_stk xf_dup 18, 0, 0)) (x_T 18 (x_L 18 (0, xi_getf 12 9 21, 0, 0)) (x_L 21 (0, xi_load 1 0 22, 0, 0))))) (x_T 23 (x_T 22 (x_L 22 (0, xi_bin xF_sub 23, 0, 0)) (x_L 23 (0, xi_putf 12 9 0 26, 0, 0))) (x_T 26 (x_L 26 (0, xi_load 0 2 27, 0, 0)) (x_T 27 (x_L 27 (0, xi_getf 12 9 30, 0, 0)) (x_L 30 (1, x_nof, 1, 0)))))))
set_option maxRecDepth 20000 in
set_option maxHeartbeats 4000000 in
theorem tb_113_0_ok (K : xKx) (hK : x_KP K) : ∀ pc, x_EOq cls K xI m_113 pc (tb_113_0 pc) :=
  (x_Tok2
  (x_Tok2
  (x_Tok2
  (x_Tok2
  (x_Lok (x_st (I := xI) (xr_iload_n (i := 1) (x_dk dl_113_0_ok 0 rfl))))
  (x_Lok (x_st (I := xI) (xr_i2l (x_dk dl_113_0_ok 1 rfl)))))
  (x_Tok2
  (x_Lok (x_st (I := xI) (xr_lconst (n := 0) (z := 0) (v := 0) (x_dk dl_113_0_ok 2 rfl) (by decide) (by decide))))
  (x_Lok (x_st (I := xI) (xr_aload_n (i := 0) (x_dk dl_113_0_ok 3 rfl))))))
  (x_Tok2
  (x_Tok2
  (x_Lok (x_st (I := xI) (xr_getf (ci := 12) (k := 9) (ix := 317) (N := 119) (C := RX12) (T := TX12) rfl in_X12 (by decide) (in_t9 (List.mem_of_getElem? (i := 124) rfl) rfl) (x_dk dl_113_0_ok 4 rfl))))
  (x_Lok (x_st (I := xI) (xr_i2l (x_dk dl_113_0_ok 5 rfl)))))
  (x_Tok2
  (x_Lok (x_ca (I := xI) (q' := m_103) rfl (xr_callS (q' := m_103) (ix := 301) (n := 3) (in_t11 (List.mem_of_getElem? (i := 7) rfl) rfl) good_w (in_t1 (List.mem_of_getElem? (i := 14) rfl) rfl) (in_t11 (List.mem_of_getElem? (i := 5) rfl) rfl) (in_t11 (List.mem_of_getElem? (i := 6) rfl) rfl) (by decide +kernel) (by decide +kernel) (x_dk dl_113_0_ok 6 rfl))))
  (x_Tok2
  (x_Lok (x_st (I := xI) (xr_ifne (off := 5) (tg := 16) (x_dk dl_113_0_ok 7 rfl) (by decide))))
  (x_Lok (x_st (I := xI) (xr_iconst (n := (-1)) (z := (-1)) (v := (-1)) (x_dk dl_113_0_ok 8 rfl) (by decide) (by decide))))))))
  (x_Tok2
  (x_Tok2
  (x_Tok2
  (x_Lok (x_rt (I := xI) (k := 1) ⟨(x_dk dl_113_0_ok 9 rfl), rfl⟩))
  (x_Lok (x_st (I := xI) (xr_aload_n (i := 0) (x_dk dl_113_0_ok 10 rfl)))))
  (x_Tok2
  (x_Lok (x_st (I := xI) (xr_dup (x_dk dl_113_0_ok 11 rfl))))
  (x_Tok2
  (x_Lok (x_st (I := xI) (xr_getf (ci := 12) (k := 9) (ix := 317) (N := 119) (C := RX12) (T := TX12) rfl in_X12 (by decide) (in_t9 (List.mem_of_getElem? (i := 124) rfl) rfl) (x_dk dl_113_0_ok 12 rfl))))
  (x_Lok (x_st (I := xI) (xr_iload_n (i := 1) (x_dk dl_113_0_ok 13 rfl)))))))
  (x_Tok2
  (x_Tok2
  (x_Lok (x_st (I := xI) (xr_isub (x_dk dl_113_0_ok 14 rfl))))
  (x_Lok (x_st (I := xI) (xr_putf (ci := 12) (k := 9) (ix := 317) (N := 119) (fk := 0) (C := RX12) (T := TX12) (ty0 := tyX12) (ty := .int) rfl in_X12 tyX12_ok nmX12 (by decide) (in_t9 (List.mem_of_getElem? (i := 124) rfl) rfl) rfl rfl x_fit_int (x_dk dl_113_0_ok 15 rfl)))))
  (x_Tok2
  (x_Lok (x_st (I := xI) (xr_aload_n (i := 0) (x_dk dl_113_0_ok 16 rfl))))
  (x_Tok2
  (x_Lok (x_st (I := xI) (xr_getf (ci := 12) (k := 9) (ix := 317) (N := 119) (C := RX12) (T := TX12) rfl in_X12 (by decide) (in_t9 (List.mem_of_getElem? (i := 124) rfl) rfl) (x_dk dl_113_0_ok 17 rfl))))
  (x_Lok (x_rt (I := xI) (k := 1) ⟨(x_dk dl_113_0_ok 18 rfl), rfl⟩)))))))
def tb_113 : Nat → xE := tb_113_0
theorem tb_113_ok (K : xKx) (hK : x_KP K) : ∀ pc, x_EOq cls K xI m_113 pc (tb_113 pc) := tb_113_0_ok K hK
def dl_114_0 : List (Nat × Instr × Nat) := [(0, .aload_n 0, 1), (1, .getfield 8, 3), (4, .iconst 0, 1), (5, .iaload, 1), (6, .istore_n 1, 1), (7, .aload_n 0, 1), (8, .invokevirtual 262, 3), (11, .iload_n 1, 1), (12, .ireturn, 1)]
set_option maxRecDepth 20000 in
theorem dl_114_0_ok : dl_114_0.all (fun q => decide (decode prog_14_method_13_code q.1 = .ok (q.2.1, q.2.2))) = true := by decide +kernel
def tb_114_0 : Nat → xE := (x_T 5 (x_T 1 (x_T 0 (x_L 0 (0, xi_load 0 2 1, 0, 0)) (x_L 1 (0, xi_getf 12 0 4, 0, 0))) (x_T 4 (x_L 4 (0, xi_push (0, 0, 0) 5, 0, 0)) (x_L 5 (0, xi_ald false 6, 0, 0)))) (x_T 7 (x_T 6 (x_L 6 (0, xi_stor 1 0 7, 0, 0)) (x_L 7 (0, xi_load 0 2 8, 0, 0))) (x_T 8 (x_L 8 (2, x_nof, 104, 1)) (x_T 11 (x_L 11 (0, xi_load 1 0 12, 0, 0)) (x_L 12 (1, x_nof, 1, 0))))))
set_option maxRecDepth 20000 in
set_option maxHeartbeats 4000000 in
theorem tb_114_0_ok (K : xKx) (hK : x_KP K) : ∀ pc, x_EOq cls K xI m_114 pc (tb_114_0 pc) :=
  (x_Tok2
  (x_Tok2
  (x_Tok2
  (x_Lok (x_st (I := xI) (xr_aload_n (i := 0) (x_dk dl_114_0_ok 0 rfl))))
  (x_Lok (x_st (I := xI) (xr_getf (ci := 12) (k := 0) (ix := 8) (N := 119) (C := RX12) (T := TX12) rfl in_X12 (by decide) (in_t9 (List.mem_of_getElem? (i := 115) rfl) rfl) (x_dk dl_114_0_ok 1 rfl)))))
  (x_Tok2
  (x_Lok (x_st (I := xI) (xr_iconst (n := 0) (z := 0) (v := 0) (x_dk dl_114_0_ok 2 rfl) (by decide) (by decide))))
  (x_Lok (x_st (I := xI) (xr_iaload (x_dk dl_114_0_ok 3 rfl))))))
  (x_Tok2
  (x_Tok2
  (x_Lok (x_st (I := xI) (xr_istore_n (i := 1) (x_dk dl_114_0_ok 4 rfl) (by decide +kernel))))
  (x_Lok (x_st (I := xI) (xr_aload_n (i := 0) (x_dk dl_114_0_ok 5 rfl)))))
  (x_Tok2
  (x_Lok (x_ca (I := xI) (q' := m_104) rfl (xr_callV (q' := m_104) (ix := 262) (n := 0) (in_t9 (List.mem_of_getElem? (i := 108) rfl) rfl) good_w (in_t1 (List.mem_of_getElem? (i := 14) rfl) rfl) (in_t9 (List.mem_of_getElem? (i := 105) rfl) rfl) (in_t9 (List.mem_of_getElem? (i := 107) rfl) rfl) (in_s8 (List.mem_of_getElem? (i := 0) rfl)) (by decide +kernel) (by decide +kernel) (by decide +kernel) (x_dk dl_114_0_ok 6 rfl))))
  (x_Tok2
  (x_Lok (x_st (I := xI) (xr_iload_n (i := 1) (x_dk dl_114_0_ok 7 rfl))))
  (x_Lok (x_rt (I := xI) (k := 1) ⟨(x_dk dl_114_0_ok 8 rfl), rfl⟩))))))
def tb_114 : Nat → xE := tb_114_0
theorem tb_114_ok (K : xKx) (hK : x_KP K) : ∀ pc, x_EOq cls K xI m_114 pc (tb_114 pc) := tb_114_0_ok K hK
def dl_115_0 : List (Nat × Instr × Nat) := [(0, .iload_n 1, 1), (1, .i2l, 1), (2, .ldc2_w 324, 3), (5, .ldc2_w 326, 3), (8, .invokestatic 301, 3), (11, .ifCond .eq 42, 3), (14, .iload_n 2, 1), (15, .i2l, 1), (16, .ldc2_w 324, 3), (19, .ldc2_w 326, 3), (22, .invokestatic 301, 3), (25, .ifCond .eq 28, 3), (28, .iload_n 3, 1), (29, .i2l, 1), (30, .lconst 0, 1), (31, .ldc2_w 328, 3), (34, .invokestatic 301, 3), (37, .ifCond .eq 16, 3), (40, .iload 4, 2), (42, .i2l, 1), (43, .lconst 0, 1), (44, .ldc2_w 330, 3), (47, .invokestatic 301, 3), (50, .ifCond .ne 5, 3), (53, .iconst (-1), 1), (54, .ireturn, 1), (55, .aload_n 0, 1), (56, .getfield 265, 3), (59, .ifCond .eq 6, 3), (65, .aload_n 0, 1), (66, .getfield 269, 3), (69, .iconst 4, 1), (70, .if_icmp .ne 6, 3), (76, .aload_n 0, 1), (77, .getfield 31, 3), (80, .aload_n 0, 1), (81, .getfield 269, 3), (84, .iload_n 1, 1), (85, .iastore, 1), (86, .aload_n 0, 1), (87, .getfield 34, 3), (90, .aload_n 0, 1), (91, .getfield 269, 3), (94, .iload_n 2, 1), (95, .iastore, 1), (96, .aload_n 0, 1), (97, .getfield 37, 3), (100, .aload_n 0, 1), (101, .getfield 269, 3), (104, .iload_n 3, 1), (105, .iastore, 1), (106, .aload_n 0, 1), (107, .getfield 40, 3), (110, .aload_n 0, 1), (111, .getfield 269, 3), (114, .iload 4, 2), (116, .iastore, 1), (117, .aload_n 0, 1), (118, .dup, 1), (119, .getfield 269, 3), (122, .iconst 1, 1), (123, .iadd, 1), (124, .putfield 269, 3), (127, .aload_n 0, 1), (128, .getfield 269, 3), (131, .iconst 1, 1), (132, .isub, 1), (133, .ireturn, 1)]
set_option maxRecDepth 20000 in
theorem dl_115_0_ok : dl_115_0.all (fun q => decide (decode prog_14_method_14_code q.1 = .ok (q.2.1, q.2.2))) = true := by decide +kernel
def tb_115_0 : Nat → xE := (x_T 34 (x_T 15 (x_T 5 (x_T 1 (x_T 0 (x_L 0 (0, xi_load 1 0 1, 0, 0)) (x_L 1 (0, xi_i2l 2, 0, 0))) (x_T 2 (x_L 2 (0, xi_push (4, (-8000), (-8000)) 5, 0, 0)) (x_L 5 (0, xi_push (4, 8000, 8000) 8, 0, 0)))) (x_T 11 (x_T 8 (x_L 8 (2, x_nof, 103, 3)) (x_L 11 (0, xi_if1 0 53 14, 0, 0))) (x_T 14 (x_L 14 (0, xi_load 2 0 15, 0, 0)) (x_L 15 (0, xi_i2l 16, 0, 0))))) (x_T 25 (x_T 19 (x_T 16 (x_L 16 (0, xi_push (4, (-8000), (-8000)) 19, 0, 0)) (x_L 19 (0, xi_push (4, 8000, 8000) 22, 0, 0))) (x_T 22 (x_L 22 (2, x_nof, 103, 3)) (x_L 25 (0, xi_if1 0 53 28, 0, 0)))) (x_T 29 (x_T 28 (x_L 28 (0, xi_load 3 0 29, 0, 0)) (x_L 29 (0, xi_i2l 30, 0, 0))) (x_T 30 (x_L 30 (0, xi_push (4, 0, 0) 31, 0, 0)) (x_T 31 (x_L 31 (0, xi_push (4, 4095, 4095) 34, 0, 0)) (x_L 34 (2, x_nof, 103, 3))))))) (x_T 53 (x_T 43 (x_T 40 (x_T 37 (x_L 37 (0, xi_if1 0 53 40, 0, 0)) (x_L 40 (0, xi_load 4 0 42, 0, 0))) (x_T 42 (x_L 42 (0, xi_i2l 43, 0, 0)) (x_L 43 (0, xi_push (4, 0, 0) 44, 0, 0)))) (x_T 47 (x_T 44 (x_L 44 (0, xi_push (4, 800, 800) 47, 0, 0)) (x_L 47 (2, x_nof, 103, 3))) (x_T 50 (x_L 50 (0, xi_if1 1 55 53, 0, 0)) (x_L 53 (0, xi_push (0, (-1), (-1)) 54, 0, 0))))) (x_T 59 (x_T 55 (x_T 54 (x_L 54 (1, x_nof, 1, 0)) (x_L 55 (0, xi_load 0 2 56, 0, 0))) (x_T 56 (x_L 56 (0, xi_getf 12 3 59, 0, 0)) (x_L 59 (0, xi_if1 0 65 62, 0, 0)))) (x_T 66 (x_T 65 (x_L 65 (0, xi_load 0 2 66, 0, 0)) (x_L 66 (0, xi_getf 12 10 69, 0, 0))) (x_T 69 (x_L 69 (0, xi_push (0, 4, 4) 70, 0, 0)) (x_T 70 (x_L 70 (0, xi_if2 1 76 73, 0, 0)) (x_L 76 (0, xi_load 0 2 77, 0, 0))))))))
set_option maxRecDepth 20000 in
set_option maxHeartbeats 4000000 in
theorem tb_115_0_ok (K : xKx) (hK : x_KP K) : ∀ pc, x_EOq cls K xI m_115 pc (tb_115_0 pc) :=
  (x_Tok2
  (x_Tok2
  (x_Tok2
  (x_Tok2
  (x_Tok2
  (x_Lok (x_st (I := xI) (xr_iload_n (i := 1) (x_dk dl_115_0_ok 0 rfl))))
  (x_Lok (x_st (I := xI) (xr_i2l (x_dk dl_115_0_ok 1 rfl)))))
  (x_Tok2
  (x_Lok (x_st (I := xI) (xr_ldc2 (ix := 324) (z := (-8000)) (v := (-8000)) (x_dk dl_115_0_ok 2 rfl) (in_t11 (List.mem_of_getElem? (i := 16) rfl) rfl) (by decide))))
  (x_Lok (x_st (I := xI) (xr_ldc2 (ix := 326) (z := 8000) (v := 8000) (x_dk dl_115_0_ok 3 rfl) (in_t11 (List.mem_of_getElem? (i := 17) rfl) rfl) (by decide))))))
  (x_Tok2
  (x_Tok2
  (x_Lok (x_ca (I := xI) (q' := m_103) rfl (xr_callS (q' := m_103) (ix := 301) (n := 3) (in_t11 (List.mem_of_getElem? (i := 7) rfl) rfl) good_w (in_t1 (List.mem_of_getElem? (i := 14) rfl) rfl) (in_t11 (List.mem_of_getElem? (i := 5) rfl) rfl) (in_t11 (List.mem_of_getElem? (i := 6) rfl) rfl) (by decide +kernel) (by decide +kernel) (x_dk dl_115_0_ok 4 rfl))))
  (x_Lok (x_st (I := xI) (xr_ifeq (off := 42) (tg := 53) (x_dk dl_115_0_ok 5 rfl) (by decide)))))
  (x_Tok2
  (x_Lok (x_st (I := xI) (xr_iload_n (i := 2) (x_dk dl_115_0_ok 6 rfl))))
  (x_Lok (x_st (I := xI) (xr_i2l (x_dk dl_115_0_ok 7 rfl)))))))
  (x_Tok2
  (x_Tok2
  (x_Tok2
  (x_Lok (x_st (I := xI) (xr_ldc2 (ix := 324) (z := (-8000)) (v := (-8000)) (x_dk dl_115_0_ok 8 rfl) (in_t11 (List.mem_of_getElem? (i := 16) rfl) rfl) (by decide))))
  (x_Lok (x_st (I := xI) (xr_ldc2 (ix := 326) (z := 8000) (v := 8000) (x_dk dl_115_0_ok 9 rfl) (in_t11 (List.mem_of_getElem? (i := 17) rfl) rfl) (by decide)))))
  (x_Tok2
  (x_Lok (x_ca (I := xI) (q' := m_103) rfl (xr_callS (q' := m_103) (ix := 301) (n := 3) (in_t11 (List.mem_of_getElem? (i := 7) rfl) rfl) good_w (in_t1 (List.mem_of_getElem? (i := 14) rfl) rfl) (in_t11 (List.mem_of_getElem? (i := 5) rfl) rfl) (in_t11 (List.mem_of_getElem? (i := 6) rfl) rfl) (by decide +kernel) (by decide +kernel) (x_dk dl_115_0_ok 10 rfl))))
  (x_Lok (x_st (I := xI) (xr_ifeq (off := 28) (tg := 53) (x_dk dl_115_0_ok 11 rfl) (by decide))))))
  (x_Tok2
  (x_Tok2
  (x_Lok (x_st (I := xI) (xr_iload_n (i := 3) (x_dk dl_115_0_ok 12 rfl))))
  (x_Lok (x_st (I := xI) (xr_i2l (x_dk dl_115_0_ok 13 rfl)))))
  (x_Tok2
  (x_Lok (x_st (I := xI) (xr_lconst (n := 0) (z := 0) (v := 0) (x_dk dl_115_0_ok 14 rfl) (by decide) (by decide))))
  (x_Tok2
  (x_Lok (x_st (I := xI) (xr_ldc2 (ix := 328) (z := 4095) (v := 4095) (x_dk dl_115_0_ok 15 rfl) (in_t11 (List.mem_of_getElem? (i := 18) rfl) rfl) (by decide))))
  (x_Lok (x_ca (I := xI) (q' := m_103) rfl (xr_callS (q' := m_103) (ix := 301) (n := 3) (in_t11 (List.mem_of_getElem? (i := 7) rfl) rfl) good_w (in_t1 (List.mem_of_getElem? (i := 14) rfl) rfl) (in_t11 (List.mem_of_getElem? (i := 5) rfl) rfl) (in_t11 (List.mem_of_getElem? (i := 6) rfl) rfl) (by decide +kernel) (by decide +kernel) (x_dk dl_115_0_ok 16 rfl)))))))))
  (x_Tok2
  (x_Tok2
  (x_Tok2
  (x_Tok2
  (x_Lok (x_st (I := xI) (xr_ifeq (off := 16) (tg := 53) (x_dk dl_115_0_ok 17 rfl) (by decide))))
  (x_Lok (x_st (I := xI) (xr_iload (i := 4) (x_dk dl_115_0_ok 18 rfl)))))
  (x_Tok2
  (x_Lok (x_st (I := xI) (xr_i2l (x_dk dl_115_0_ok 19 rfl))))
  (x_Lok (x_st (I := xI) (xr_lconst (n := 0) (z := 0) (v := 0) (x_dk dl_115_0_ok 20 rfl) (by decide) (by decide))))))
  (x_Tok2
  (x_Tok2
  (x_Lok (x_st (I := xI) (xr_ldc2 (ix := 330) (z := 800) (v := 800) (x_dk dl_115_0_ok 21 rfl) (in_t11 (List.mem_of_getElem? (i := 19) rfl) rfl) (by decide))))
  (x_Lok (x_ca (I := xI) (q' := m_103) rfl (xr_callS (q' := m_103) (ix := 301) (n := 3) (in_t11 (List.mem_of_getElem? (i := 7) rfl) rfl) good_w (in_t1 (List.mem_of_getElem? (i := 14) rfl) rfl) (in_t11 (List.mem_of_getElem? (i := 5) rfl) rfl) (in_t11 (List.mem_of_getElem? (i := 6) rfl) rfl) (by decide +kernel) (by decide +kernel) (x_dk dl_115_0_ok 22 rfl)))))
  (x_Tok2
  (x_Lok (x_st (I := xI) (xr_ifne (off := 5) (tg := 55) (x_dk dl_115_0_ok 23 rfl) (by decide))))
  (x_Lok (x_st (I := xI) (xr_iconst (n := (-1)) (z := (-1)) (v := (-1)) (x_dk dl_115_0_ok 24 rfl) (by decide) (by decide)))))))
  (x_Tok2
  (x_Tok2
  (x_Tok2
  (x_Lok (x_rt (I := xI) (k := 1) ⟨(x_dk dl_115_0_ok 25 rfl), rfl⟩))
  (x_Lok (x_st (I := xI) (xr_aload_n (i := 0) (x_dk dl_115_0_ok 26 rfl)))))
  (x_Tok2
  (x_Lok (x_st (I := xI) (xr_getf (ci := 12) (k := 3) (ix := 265) (N := 119) (C := RX12) (T := TX12) rfl in_X12 (by decide) (in_t9 (List.mem_of_getElem? (i := 118) rfl) rfl) (x_dk dl_115_0_ok 27 rfl))))
  (x_Lok (x_st (I := xI) (xr_ifeq (off := 6) (tg := 65) (x_dk dl_115_0_ok 28 rfl) (by decide))))))
  (x_Tok2
  (x_Tok2
  (x_Lok (x_st (I := xI) (xr_aload_n (i := 0) (x_dk dl_115_0_ok 29 rfl))))
  (x_Lok (x_st (I := xI) (xr_getf (ci := 12) (k := 10) (ix := 269) (N := 119) (C := RX12) (T := TX12) rfl in_X12 (by decide) (in_t9 (List.mem_of_getElem? (i := 125) rfl) rfl) (x_dk dl_115_0_ok 30 rfl)))))
  (x_Tok2
  (x_Lok (x_st (I := xI) (xr_iconst (n := 4) (z := 4) (v := 4) (x_dk dl_115_0_ok 31 rfl) (by decide) (by decide))))
  (x_Tok2
  (x_Lok (x_st (I := xI) (xr_icmpne (off := 6) (tg := 76) (x_dk dl_115_0_ok 32 rfl) (by decide))))
  (x_Lok (x_st (I := xI) (xr_aload_n (i := 0) (x_dk dl_115_0_ok 33 rfl))))))))))
def tb_115_34 : Nat → xE := (x_T 105 (x_T 90 (x_T 84 (x_T 80 (x_T 77 (x_L 77 (0, xi_getf 12 11 80, 0, 0)) (x_L 80 (0, xi_load 0 2 81, 0, 0))) (x_T 81 (x_L 81 (0, xi_getf 12 10 84, 0, 0)) (x_L 84 (0, xi_load 1 0 85, 0, 0)))) (x_T 86 (x_T 85 (x_L 85 (0, xi_ast false 86, 0, 0)) (x_L 86 (0, xi_load 0 2 87, 0, 0))) (x_T 87 (x_L 87 (0, xi_getf 12 12 90, 0, 0)) (x_L 90 (0, xi_load 0 2 91, 0, 0))))) (x_T 96 (x_T 94 (x_T 91 (x_L 91 (0, xi_getf 12 10 94, 0, 0)) (x_L 94 (0, xi_load 2 0 95, 0, 0))) (x_T 95 (x_L 95 (0, xi_ast false 96, 0, 0)) (x_L 96 (0, xi_load 0 2 97, 0, 0)))) (x_T 100 (x_T 97 (x_L 97 (0, xi_getf 12 13 100, 0, 0)) (x_L 100 (0, xi_load 0 2 101, 0, 0))) (x_T 101 (x_L 101 (0, xi_getf 12 10 104, 0, 0)) (x_T 104 (x_L 104 (0, xi_load 3 0 105, 0, 0)) (x_L 105 (0, xi_ast false 106, 0, 0))))))) (x_T 118 (x_T 111 (x_T 107 (x_T 106 (x_L 106 (0, xi_load 0 2 107, 0, 0)) (x_L 107 (0, xi_getf 12 14 110, 0, 0))) (x_T 110 (x_L 110 (0, xi_load 0 2 111, 0, 0)) (x_L 111 (0, xi_getf 12 10 114, 0, 0)))) (x_T 116 (x_T 114 (x_L 114 (0, xi_load 4 0 116, 0, 0)) (x_L 116 (0, xi_ast false 117, 0, 0))) (x_T 117 (x_L 117 (0, xi_load 0 2 118, 0, 0)) (x_L 118 (0, xi_stk xf_dup 119, 0, 0))))) (x_T 124 (x_T 122 (x_T 119 (x_L 119 (0, xi_getf 12 10 122, 0, 0)) (x_L 122 (0, xi_push (0, 1, 1) 123, 0, 0))) (x_T 123 (x_L 123 (0, xi_bin xF_add 124, 0, 0)) (x_L 124 (0, xi_putf 12 10 0 127, 0, 0)))) (x_T 128 (x_T 127 (x_L 127 (0, xi_load 0 2 128, 0, 0)) (x_L 128 (0, xi_getf 12 10 131, 0, 0))) (x_T 131 (x_L 131 (0, xi_push (0, 1, 1) 132, 0, 0)) (x_T 132 (x_L 132 (0, xi_bin xF_sub 133, 0, 0)) (x_L 133 (1, x_nof, 1, 0))))))))
set_option maxRecDepth 20000 in
set_option maxHeartbeats 4000000 in
theorem tb_115_34_ok (K : xKx) (hK : x_KP K) : ∀ pc, x_EOq cls K xI m_115 pc (tb_115_34 pc) :=
  (x_Tok2
  (x_Tok2
  (x_Tok2
  (x_Tok2
  (x_Tok2
  (x_Lok (x_st (I := xI) (xr_getf (ci := 12) (k := 11) (ix := 31) (N := 119) (C := RX12) (T := TX12) rfl in_X12 (by decide) (in_t9 (List.mem_of_getElem? (i := 126) rfl) rfl) (x_dk dl_115_0_ok 34 rfl))))
  (x_Lok (x_st (I := xI) (xr_aload_n (i := 0) (x_dk dl_115_0_ok 35 rfl)))))
  (x_Tok2
  (x_Lok (x_st (I := xI) (xr_getf (ci := 12) (k := 10) (ix := 269) (N := 119) (C := RX12) (T := TX12) rfl in_X12 (by decide) (in_t9 (List.mem_of_getElem? (i := 125) rfl) rfl) (x_dk dl_115_0_ok 36 rfl))))
  (x_Lok (x_st (I := xI) (xr_iload_n (i := 1) (x_dk dl_115_0_ok 37 rfl))))))
  (x_Tok2
  (x_Tok2
  (x_Lok (x_st (I := xI) (xr_iastore (x_dk dl_115_0_ok 38 rfl))))
  (x_Lok (x_st (I := xI) (xr_aload_n (i := 0) (x_dk dl_115_0_ok 39 rfl)))))
  (x_Tok2
  (x_Lok (x_st (I := xI) (xr_getf (ci := 12) (k := 12) (ix := 34) (N := 119) (C := RX12) (T := TX12) rfl in_X12 (by decide) (in_t9 (List.mem_of_getElem? (i := 127) rfl) rfl) (x_dk dl_115_0_ok 40 rfl))))
  (x_Lok (x_st (I := xI) (xr_aload_n (i := 0) (x_dk dl_115_0_ok 41 rfl)))))))
  (x_Tok2
  (x_Tok2
  (x_Tok2
  (x_Lok (x_st (I := xI) (xr_getf (ci := 12) (k := 10) (ix := 269) (N := 119) (C := RX12) (T := TX12) rfl in_X12 (by decide) (in_t9 (List.mem_of_getElem? (i := 125) rfl) rfl) (x_dk dl_115_0_ok 42 rfl))))
  (x_Lok (x_st (I := xI) (xr_iload_n (i := 2) (x_dk dl_115_0_ok 43 rfl)))))
  (x_Tok2
  (x_Lok (x_st (I := xI) (xr_iastore (x_dk dl_115_0_ok 44 rfl))))
  (x_Lok (x_st (I := xI) (xr_aload_n (i := 0) (x_dk dl_115_0_ok 45 rfl))))))
  (x_Tok2
  (x_Tok2
  (x_Lok (x_st (I := xI) (xr_getf (ci := 12) (k := 13) (ix := 37) (N := 119) (C := RX12) (T := TX12) rfl in_X12 (by decide) (in_t9 (List.mem_of_getElem? (i := 128) rfl) rfl) (x_dk dl_115_0_ok 46 rfl))))
  (x_Lok (x_st (I := xI) (xr_aload_n (i := 0) (x_dk dl_115_0_ok 47 rfl)))))
  (x_Tok2
  (x_Lok (x_st (I := xI) (xr_getf (ci := 12) (k := 10) (ix := 269) (N := 119) (C := RX12) (T := TX12) rfl in_X12 (by decide) (in_t9 (List.mem_of_getElem? (i := 125) rfl) rfl) (x_dk dl_115_0_ok 48 rfl))))
  (x_Tok2
  (x_Lok (x_st (I := xI) (xr_iload_n (i := 3) (x_dk dl_115_0_ok 49 rfl))))
  (x_Lok (x_st (I := xI) (xr_iastore (x_dk dl_115_0_ok 50 rfl)))))))))
  (x_Tok2
  (x_Tok2
  (x_Tok2
  (x_Tok2
  (x_Lok (x_st (I := xI) (xr_aload_n (i := 0) (x_dk dl_115_0_ok 51 rfl))))
  (x_Lok (x_st (I := xI) (xr_getf (ci := 12) (k := 14) (ix := 40) (N := 119) (C := RX12) (T := TX12) rfl in_X12 (by decide) (in_t9 (List.mem_of_getElem? (i := 129) rfl) rfl) (x_dk dl_115_0_ok 52 rfl)))))
  (x_Tok2
  (x_Lok (x_st (I := xI) (xr_aload_n (i := 0) (x_dk dl_115_0_ok 53 rfl))))
  (x_Lok (x_st (I := xI) (xr_getf (ci := 12) (k := 10) (ix := 269) (N := 119) (C := RX12) (T := TX12) rfl in_X12 (by decide) (in_t9 (List.mem_of_getElem? (i := 125) rfl) rfl) (x_dk dl_115_0_ok 54 rfl))))))
  (x_Tok2
  (x_Tok2
  (x_Lok (x_st (I := xI) (xr_iload (i := 4) (x_dk dl_115_0_ok 55 rfl))))
  (x_Lok (x_st (I := xI) (xr_iastore (x_dk dl_115_0_ok 56 rfl)))))
  (x_Tok2
  (x_Lok (x_st (I := xI) (xr_aload_n (i := 0) (x_dk dl_115_0_ok 57 rfl))))
  (x_Lok (x_st (I := xI) (xr_dup (x_dk dl_115_0_ok 58 rfl)))))))
  (x_Tok2
  (x_Tok2
  (x_Tok2
  (x_Lok (x_st (I := xI) (xr_getf (ci := 12) (k := 10) (ix := 269) (N := 119) (C := RX12) (T := TX12) rfl in_X12 (by decide) (in_t9 (List.mem_of_getElem? (i := 125) rfl) rfl) (x_dk dl_115_0_ok 59 rfl))))
  (x_Lok (x_st (I := xI) (xr_iconst (n := 1) (z := 1) (v := 1) (x_dk dl_115_0_ok 60 rfl) (by decide) (by decide)))))
  (x_Tok2
  (x_Lok (x_st (I := xI) (xr_iadd (x_dk dl_115_0_ok 61 rfl))))
  (x_Lok (x_st (I := xI) (xr_putf (ci := 12) (k := 10) (ix := 269) (N := 119) (fk := 0) (C := RX12) (T := TX12) (ty0 := tyX12) (ty := .int) rfl in_X12 tyX12_ok nmX12 (by decide) (in_t9 (List.mem_of_getElem? (i := 125) rfl) rfl) rfl rfl x_fit_int (x_dk dl_115_0_ok 62 rfl))))))
  (x_Tok2
  (x_Tok2
  (x_Lok (x_st (I := xI) (xr_aload_n (i := 0) (x_dk dl_115_0_ok 63 rfl))))
  (x_Lok (x_st (I := xI) (xr_getf (ci := 12) (k := 10) (ix := 269) (N := 119) (C := RX12) (T := TX12) rfl in_X12 (by decide) (in_t9 (List.mem_of_getElem? (i := 125) rfl) rfl) (x_dk dl_115_0_ok 64 rfl)))))
  (x_Tok2
  (x_Lok (x_st (I := xI) (xr_iconst (n := 1) (z := 1) (v := 1) (x_dk dl_115_0_ok 65 rfl) (by decide) (by decide))))
  (x_Tok2
  (x_Lok (x_st (I := xI) (xr_isub (x_dk dl_115_0_ok 66 rfl))))
  (x_Lok (x_rt (I := xI) (k := 1) ⟨(x_dk dl_115_0_ok 67 rfl), rfl⟩))))))))
def tb_115 : Nat → xE := (x_T 76 tb_115_0 tb_115_34)
theorem tb_115_ok (K : xKx) (hK : x_KP K) : ∀ pc, x_EOq cls K xI m_115 pc (tb_115 pc) := (x_Tok2 (tb_115_0_ok K hK) (tb_115_34_ok K hK))
end
