noncomputable section
theorem ho_378 : (xm_y n_378).cls = "RobotCellHouseModel" := rfl
def dn_378_0_0 : List (Nat × Instr × Nat) := [(0, .iload_n 1, 1), (1, .tableswitch 268 35 44 #[55, 90, 99, 268, 147, 268, 268, 250, 268, 166], 55), (56, .aload_n 0, 1), (57, .invokevirtual 714, 3), (60, .istore_n 3, 1), (61, .aload_n 0, 1), (62, .invokevirtual 714, 3), (65, .istore 4, 2), (67, .iload 4, 2), (69, .i2l, 1), (70, .lconst 0, 1), (71, .ldc2_w 352, 3), (74, .invokestatic 301, 3), (77, .ifCond .ne 5, 3), (80, .iconst 2, 1), (81, .ireturn, 1), (82, .aload_n 0, 1), (83, .iload 4, 2), (85, .iload_n 3, 1), (86, .invokevirtual 729, 3), (89, .iconst 0, 1), (90, .ireturn, 1), (91, .aload_n 0, 1), (92, .aload_n 0, 1), (93, .invokevirtual 714, 3)]
set_option maxRecDepth 20000 in
theorem dn_378_0_0_ok : dn_378_0_0.all (fun q => decide (decode (xm_b n_378) q.1 = .ok (q.2.1, q.2.2))) = true := xa_g_ok (by decide +kernel)
def dn_378_0_1 : List (Nat × Instr × Nat) := [(96, .invokevirtual 732, 3), (99, .ireturn, 1), (100, .aload_n 0, 1), (101, .invokevirtual 714, 3), (104, .istore 5, 2), (106, .iload 5, 2), (108, .i2l, 1), (109, .lconst 0, 1), (110, .ldc2_w 367, 3), (113, .invokestatic 301, 3), (116, .ifCond .eq 21, 3), (119, .aload_n 0, 1), (120, .getfield 8, 3), (123, .sipush 20868, 3), (126, .iload 5, 2), (128, .iadd, 1), (129, .iaload, 1), (130, .aload_n 0, 1), (131, .getfield 660, 3), (134, .if_icmp .eq 6, 3), (137, .bipush 9, 2), (139, .ireturn, 1), (140, .aload_n 0, 1), (141, .iload 5, 2), (143, .invokevirtual 648, 3)]
set_option maxRecDepth 20000 in
theorem dn_378_0_1_ok : dn_378_0_1.all (fun q => decide (decode (xm_b n_378) q.1 = .ok (q.2.1, q.2.2))) = true := xa_g_ok (by decide +kernel)
def dn_378_0_2 : List (Nat × Instr × Nat) := [(146, .iconst 0, 1), (147, .ireturn, 1), (148, .aload_n 0, 1), (149, .aload_n 0, 1), (150, .getfield 663, 3), (153, .iload_n 2, 1), (154, .invokevirtual 735, 3), (157, .ifCond .ge 8, 3), (160, .bipush 10, 2), (162, .goto 4, 3), (165, .iconst 0, 1), (166, .ireturn, 1), (167, .aload_n 0, 1), (168, .invokevirtual 714, 3), (171, .istore 6, 2), (173, .iload 6, 2), (175, .i2l, 1), (176, .ldc2_w 361, 3), (179, .ldc2_w 352, 3), (182, .invokestatic 301, 3), (185, .ifCond .ne 5, 3), (188, .iconst 2, 1), (189, .ireturn, 1), (190, .aload_n 0, 1), (191, .getfield 8, 3)]
set_option maxRecDepth 20000 in
theorem dn_378_0_2_ok : dn_378_0_2.all (fun q => decide (decode (xm_b n_378) q.1 = .ok (q.2.1, q.2.2))) = true := xa_g_ok (by decide +kernel)
def dn_378_0_3 : List (Nat × Instr × Nat) := [(194, .aload_n 0, 1), (195, .getfield 651, 3), (198, .bipush 8, 2), (200, .iadd, 1), (201, .iload 6, 2), (203, .iastore, 1), (204, .aload_n 0, 1), (205, .getfield 8, 3), (208, .aload_n 0, 1), (209, .getfield 651, 3), (212, .bipush 9, 2), (214, .iadd, 1), (215, .iload_n 2, 1), (216, .iastore, 1), (217, .aload_n 0, 1), (218, .getfield 8, 3), (221, .aload_n 0, 1), (222, .getfield 651, 3), (225, .bipush 10, 2), (227, .iadd, 1), (228, .iload 6, 2), (230, .ifCond .ge 7, 3), (233, .iconst 0, 1), (234, .goto 14, 3), (237, .aload_n 0, 1)]
set_option maxRecDepth 20000 in
theorem dn_378_0_3_ok : dn_378_0_3.all (fun q => decide (decode (xm_b n_378) q.1 = .ok (q.2.1, q.2.2))) = true := xa_g_ok (by decide +kernel)
def dn_378_1_0 : List (Nat × Instr × Nat) := [(238, .getfield 8, 3), (241, .sipush 352, 3), (244, .iload 6, 2), (246, .iadd, 1), (247, .iaload, 1), (248, .iastore, 1), (249, .iconst 0, 1), (250, .ireturn, 1), (251, .aload_n 0, 1), (252, .aload_n 0, 1), (253, .getfield 663, 3), (256, .invokevirtual 738, 3), (259, .ifCond .eq 7, 3), (262, .iconst 0, 1), (263, .goto 5, 3), (266, .bipush 7, 2), (268, .ireturn, 1), (269, .aload_n 0, 1), (270, .aload_n 0, 1), (271, .getfield 663, 3), (274, .invokevirtual 741, 3), (277, .ifCond .eq 7, 3), (280, .iconst 0, 1), (281, .goto 5, 3), (284, .bipush 7, 2)]
set_option maxRecDepth 20000 in
theorem dn_378_1_0_ok : dn_378_1_0.all (fun q => decide (decode (xm_b n_378) q.1 = .ok (q.2.1, q.2.2))) = true := xa_g_ok (by decide +kernel)
def dn_378_1_1 : List (Nat × Instr × Nat) := [(286, .ireturn, 1)]
set_option maxRecDepth 20000 in
theorem dn_378_1_1_ok : dn_378_1_1.all (fun q => decide (decode (xm_b n_378) q.1 = .ok (q.2.1, q.2.2))) = true := xa_g_ok (by decide +kernel)
def te_378_0 : Nat → eE := (e_T 80 (e_T 62 (e_T 56 (e_T 0 (e_L 0 (0, ei_load 1 0 1, 0, 0)) (e_T 1 (e_L 1 (0, ei_sw [((-2147483648), 34, 269), (35, 35, 56), (36, 36, 91), (37, 37, 100), (38, 38, 269), (39, 39, 148), (40, 40, 269), (41, 41, 269), (42, 42, 251), (43, 43, 269), (44, 44, 167), (45, 2147483647, 269)], 0, 0)) (e_L 56 (0, ei_load 0 2 57, 0, 0)))) (e_T 60 (e_T 57 (e_L 57 (2, e_nof, 364, 1)) (e_L 60 (0, ei_stor 3 0 61, 0, 0))) (e_T 61 (e_L 61 (0, ei_load 0 2 62, 0, 0)) (e_L 62 (2, e_nof, 364, 1))))) (e_T 70 (e_T 67 (e_T 65 (e_L 65 (0, ei_stor 4 0 67, 0, 0)) (e_L 67 (0, ei_load 4 0 69, 0, 0))) (e_T 69 (e_L 69 (0, ei_un (fun x => (4, x)) 70, 0, 0)) (e_L 70 (0, ei_push (4, 0) 71, 0, 0)))) (e_T 74 (e_T 71 (e_L 71 (0, ei_push (4, 63) 74, 0, 0)) (e_L 74 (2, e_nof, 266, 3))) (e_T 77 (e_L 77 (0, ei_if1 1 82 80, 0, 0)) (e_L 80 (0, ei_push (0, 2) 81, 0, 0)))))) (e_T 91 (e_T 85 (e_T 82 (e_T 81 (e_L 81 (1, e_nof, 1, 0)) (e_L 82 (0, ei_load 0 2 83, 0, 0))) (e_T 83 (e_L 83 (0, ei_load 4 0 85, 0, 0)) (e_L 85 (0, ei_load 3 0 86, 0, 0)))) (e_T 89 (e_T 86 (e_L 86 (2, e_nof, 323, 3)) (e_L 89 (0, ei_push (0, 0) 90, 0, 0))) (e_T 90 (e_L 90 (1, e_nof, 1, 0)) (e_L 91 (0, ei_load 0 2 92, 0, 0))))) (e_T 99 (e_T 93 (e_T 92 (e_L 92 (0, ei_load 0 2 93, 0, 0)) (e_L 93 (2, e_nof, 364, 1))) (e_T 96 (e_L 96 (2, e_nof, 379, 2)) (e_L 99 (1, e_nof, 1, 0)))) (e_T 101 (e_T 100 (e_L 100 (0, ei_load 0 2 101, 0, 0)) (e_L 101 (2, e_nof, 364, 1))) (e_T 104 (e_L 104 (0, ei_stor 5 0 106, 0, 0)) (e_L 106 (0, ei_load 5 0 108, 0, 0)))))))
set_option maxRecDepth 20000 in
set_option maxHeartbeats 4000000 in
theorem te_378_0_ok : ∀ pc, e_EOq eft cls elay eI n_378 pc (te_378_0 pc) :=
  (e_Tok2
  (e_Tok2
  (e_Tok2
  (e_Tok2
  (e_Lok (ld_iload_n_1 (x_dk dn_378_0_0_ok 0 rfl)))
  (e_Tok2
  (e_Lok (e_st (I := eI) (er_tsw (dflt := 268) (lo := 35) (hi := 44) (offs := #[55, 90, 99, 268, 147, 268, 268, 250, 268, 166]) (len := 55) (n := 10) (x_dk dn_378_0_0_ok 1 rfl) (by decide) (by decide +kernel)) nx_sw))
  (e_Lok (ld_aload_n_0 (x_dk dn_378_0_0_ok 2 rfl)))))
  (e_Tok2
  (e_Tok2
  (e_Lok (lk_12_714 ho_378 (x_dk dn_378_0_0_ok 3 rfl)))
  (e_Lok (e_st (I := eI) (er_istore_n (i := 3) (x_dk dn_378_0_0_ok 4 rfl) (by decide +kernel)) nx_stor)))
  (e_Tok2
  (e_Lok (ld_aload_n_0 (x_dk dn_378_0_0_ok 5 rfl)))
  (e_Lok (lk_12_714 ho_378 (x_dk dn_378_0_0_ok 6 rfl))))))
  (e_Tok2
  (e_Tok2
  (e_Tok2
  (e_Lok (e_st (I := eI) (er_istore (i := 4) (x_dk dn_378_0_0_ok 7 rfl) (by decide +kernel)) nx_stor))
  (e_Lok (ld_iload_4 (x_dk dn_378_0_0_ok 8 rfl))))
  (e_Tok2
  (e_Lok (e_st (I := eI) (er_i2l (x_dk dn_378_0_0_ok 9 rfl)) (nx_un (fun _ => rfl))))
  (e_Lok (ps_lconst_0 (x_dk dn_378_0_0_ok 10 rfl)))))
  (e_Tok2
  (e_Tok2
  (e_Lok (e_st (I := eI) (er_ldc2 (ix := 352) (z := 63) (v := 63) (x_dk dn_378_0_0_ok 11 rfl) (in_t11 (List.mem_of_getElem? (i := 81) rfl) rfl) (by decide)) (nx_push (Or.inl rfl))))
  (e_Lok (lk_12_301 ho_378 (x_dk dn_378_0_0_ok 12 rfl))))
  (e_Tok2
  (e_Lok (e_st (I := eI) (er_ifne (off := 5) (tg := 82) (x_dk dn_378_0_0_ok 13 rfl) (by decide)) nx_if1))
  (e_Lok (ps_iconst_2 (x_dk dn_378_0_0_ok 14 rfl)))))))
  (e_Tok2
  (e_Tok2
  (e_Tok2
  (e_Tok2
  (e_Lok (e_rt (I := eI) (k := 1) ⟨(x_dk dn_378_0_0_ok 15 rfl), rfl⟩))
  (e_Lok (ld_aload_n_0 (x_dk dn_378_0_0_ok 16 rfl))))
  (e_Tok2
  (e_Lok (ld_iload_4 (x_dk dn_378_0_0_ok 17 rfl)))
  (e_Lok (ld_iload_n_3 (x_dk dn_378_0_0_ok 18 rfl)))))
  (e_Tok2
  (e_Tok2
  (e_Lok (lk_12_729 ho_378 (x_dk dn_378_0_0_ok 19 rfl)))
  (e_Lok (ps_iconst_0 (x_dk dn_378_0_0_ok 20 rfl))))
  (e_Tok2
  (e_Lok (e_rt (I := eI) (k := 1) ⟨(x_dk dn_378_0_0_ok 21 rfl), rfl⟩))
  (e_Lok (ld_aload_n_0 (x_dk dn_378_0_0_ok 22 rfl))))))
  (e_Tok2
  (e_Tok2
  (e_Tok2
  (e_Lok (ld_aload_n_0 (x_dk dn_378_0_0_ok 23 rfl)))
  (e_Lok (lk_12_714 ho_378 (x_dk dn_378_0_0_ok 24 rfl))))
  (e_Tok2
  (e_Lok (lk_12_732 ho_378 (x_dk dn_378_0_1_ok 0 rfl)))
  (e_Lok (e_rt (I := eI) (k := 1) ⟨(x_dk dn_378_0_1_ok 1 rfl), rfl⟩))))
  (e_Tok2
  (e_Tok2
  (e_Lok (ld_aload_n_0 (x_dk dn_378_0_1_ok 2 rfl)))
  (e_Lok (lk_12_714 ho_378 (x_dk dn_378_0_1_ok 3 rfl))))
  (e_Tok2
  (e_Lok (e_st (I := eI) (er_istore (i := 5) (x_dk dn_378_0_1_ok 4 rfl) (by decide +kernel)) nx_stor))
  (e_Lok (ld_iload_5 (x_dk dn_378_0_1_ok 5 rfl))))))))
def te_378_31 : Nat → eE := (e_T 139 (e_T 123 (e_T 113 (e_T 109 (e_T 108 (e_L 108 (0, ei_un (fun x => (4, x)) 109, 0, 0)) (e_L 109 (0, ei_push (4, 0) 110, 0, 0))) (e_T 110 (e_L 110 (0, ei_push (4, 7) 113, 0, 0)) (e_L 113 (2, e_nof, 266, 3)))) (e_T 119 (e_T 116 (e_L 116 (0, ei_if1 0 137 119, 0, 0)) (e_L 119 (0, ei_load 0 2 120, 0, 0))) (e_T 120 (e_L 120 (0, ei_getf eft elay 12 0 123, 0, 0)) (e_L 123 (0, ei_push (0, 20868) 126, 0, 0))))) (e_T 130 (e_T 128 (e_T 126 (e_L 126 (0, ei_load 5 0 128, 0, 0)) (e_L 128 (0, ei_bin eF_add 129, 0, 0))) (e_T 129 (e_L 129 (0, ei_ald elay false 130, 0, 0)) (e_L 130 (0, ei_load 0 2 131, 0, 0)))) (e_T 134 (e_T 131 (e_L 131 (0, ei_getf eft elay 12 96 134, 0, 0)) (e_L 134 (0, ei_if2 0 140 137, 0, 0))) (e_T 137 (e_L 137 (0, ei_push (0, 9) 139, 0, 0)) (e_L 139 (1, e_nof, 1, 0)))))) (e_T 150 (e_T 146 (e_T 141 (e_T 140 (e_L 140 (0, ei_load 0 2 141, 0, 0)) (e_L 141 (0, ei_load 5 0 143, 0, 0))) (e_T 143 (e_L 143 (2, e_nof, 360, 2)) (e_L 146 (0, ei_push (0, 0) 147, 0, 0)))) (e_T 148 (e_T 147 (e_L 147 (1, e_nof, 1, 0)) (e_L 148 (0, ei_load 0 2 149, 0, 0))) (e_T 149 (e_L 149 (0, ei_load 0 2 150, 0, 0)) (e_L 150 (0, ei_getf eft elay 12 98 153, 0, 0))))) (e_T 160 (e_T 154 (e_T 153 (e_L 153 (0, ei_load 2 0 154, 0, 0)) (e_L 154 (2, e_nof, 359, 3))) (e_T 157 (e_L 157 (0, ei_if1 3 165 160, 0, 0)) (e_L 160 (0, ei_push (0, 10) 162, 0, 0)))) (e_T 165 (e_T 162 (e_L 162 (0, ei_goto 166, 0, 0)) (e_L 165 (0, ei_push (0, 0) 166, 0, 0))) (e_T 166 (e_L 166 (1, e_nof, 1, 0)) (e_L 167 (0, ei_load 0 2 168, 0, 0)))))))
set_option maxRecDepth 20000 in
set_option maxHeartbeats 4000000 in
theorem te_378_31_ok : ∀ pc, e_EOq eft cls elay eI n_378 pc (te_378_31 pc) :=
  (e_Tok2
  (e_Tok2
  (e_Tok2
  (e_Tok2
  (e_Tok2
  (e_Lok (e_st (I := eI) (er_i2l (x_dk dn_378_0_1_ok 6 rfl)) (nx_un (fun _ => rfl))))
  (e_Lok (ps_lconst_0 (x_dk dn_378_0_1_ok 7 rfl))))
  (e_Tok2
  (e_Lok (e_st (I := eI) (er_ldc2 (ix := 367) (z := 7) (v := 7) (x_dk dn_378_0_1_ok 8 rfl) (in_t11 (List.mem_of_getElem? (i := 120) rfl) rfl) (by decide)) (nx_push (Or.inl rfl))))
  (e_Lok (lk_12_301 ho_378 (x_dk dn_378_0_1_ok 9 rfl)))))
  (e_Tok2
  (e_Tok2
  (e_Lok (e_st (I := eI) (er_ifeq (off := 21) (tg := 137) (x_dk dn_378_0_1_ok 10 rfl) (by decide)) nx_if1))
  (e_Lok (ld_aload_n_0 (x_dk dn_378_0_1_ok 11 rfl))))
  (e_Tok2
  (e_Lok (lk_12_8g ho_378 (x_dk dn_378_0_1_ok 12 rfl)))
  (e_Lok (ps_sipush_20868 (x_dk dn_378_0_1_ok 13 rfl))))))
  (e_Tok2
  (e_Tok2
  (e_Tok2
  (e_Lok (ld_iload_5 (x_dk dn_378_0_1_ok 14 rfl)))
  (e_Lok (sm_iadd (x_dk dn_378_0_1_ok 15 rfl))))
  (e_Tok2
  (e_Lok (sm_iaload (x_dk dn_378_0_1_ok 16 rfl)))
  (e_Lok (ld_aload_n_0 (x_dk dn_378_0_1_ok 17 rfl)))))
  (e_Tok2
  (e_Tok2
  (e_Lok (lk_12_660g ho_378 (x_dk dn_378_0_1_ok 18 rfl)))
  (e_Lok (e_st (I := eI) (er_icmpeq (off := 6) (tg := 140) (x_dk dn_378_0_1_ok 19 rfl) (by decide)) nx_if2)))
  (e_Tok2
  (e_Lok (ps_bipush_9 (x_dk dn_378_0_1_ok 20 rfl)))
  (e_Lok (e_rt (I := eI) (k := 1) ⟨(x_dk dn_378_0_1_ok 21 rfl), rfl⟩))))))
  (e_Tok2
  (e_Tok2
  (e_Tok2
  (e_Tok2
  (e_Lok (ld_aload_n_0 (x_dk dn_378_0_1_ok 22 rfl)))
  (e_Lok (ld_iload_5 (x_dk dn_378_0_1_ok 23 rfl))))
  (e_Tok2
  (e_Lok (lk_12_648 ho_378 (x_dk dn_378_0_1_ok 24 rfl)))
  (e_Lok (ps_iconst_0 (x_dk dn_378_0_2_ok 0 rfl)))))
  (e_Tok2
  (e_Tok2
  (e_Lok (e_rt (I := eI) (k := 1) ⟨(x_dk dn_378_0_2_ok 1 rfl), rfl⟩))
  (e_Lok (ld_aload_n_0 (x_dk dn_378_0_2_ok 2 rfl))))
  (e_Tok2
  (e_Lok (ld_aload_n_0 (x_dk dn_378_0_2_ok 3 rfl)))
  (e_Lok (lk_12_663g ho_378 (x_dk dn_378_0_2_ok 4 rfl))))))
  (e_Tok2
  (e_Tok2
  (e_Tok2
  (e_Lok (ld_iload_n_2 (x_dk dn_378_0_2_ok 5 rfl)))
  (e_Lok (lk_12_735 ho_378 (x_dk dn_378_0_2_ok 6 rfl))))
  (e_Tok2
  (e_Lok (e_st (I := eI) (er_ifge (off := 8) (tg := 165) (x_dk dn_378_0_2_ok 7 rfl) (by decide)) nx_if1))
  (e_Lok (ps_bipush_10 (x_dk dn_378_0_2_ok 8 rfl)))))
  (e_Tok2
  (e_Tok2
  (e_Lok (e_st (I := eI) (er_goto (off := 4) (tg := 166) (x_dk dn_378_0_2_ok 9 rfl) (by decide)) nx_goto))
  (e_Lok (ps_iconst_0 (x_dk dn_378_0_2_ok 10 rfl))))
  (e_Tok2
  (e_Lok (e_rt (I := eI) (k := 1) ⟨(x_dk dn_378_0_2_ok 11 rfl), rfl⟩))
  (e_Lok (ld_aload_n_0 (x_dk dn_378_0_2_ok 12 rfl))))))))
def te_378_63 : Nat → eE := (e_T 198 (e_T 182 (e_T 173 (e_T 168 (e_L 168 (2, e_nof, 364, 1)) (e_T 171 (e_L 171 (0, ei_stor 6 0 173, 0, 0)) (e_L 173 (0, ei_load 6 0 175, 0, 0)))) (e_T 176 (e_T 175 (e_L 175 (0, ei_un (fun x => (4, x)) 176, 0, 0)) (e_L 176 (0, ei_push (4, (-1)) 179, 0, 0))) (e_T 179 (e_L 179 (0, ei_push (4, 63) 182, 0, 0)) (e_L 182 (2, e_nof, 266, 3))))) (e_T 190 (e_T 188 (e_T 185 (e_L 185 (0, ei_if1 1 190 188, 0, 0)) (e_L 188 (0, ei_push (0, 2) 189, 0, 0))) (e_T 189 (e_L 189 (1, e_nof, 1, 0)) (e_L 190 (0, ei_load 0 2 191, 0, 0)))) (e_T 194 (e_T 191 (e_L 191 (0, ei_getf eft elay 12 0 194, 0, 0)) (e_L 194 (0, ei_load 0 2 195, 0, 0))) (e_T 195 (e_L 195 (0, ei_getf eft elay 12 97 198, 0, 0)) (e_L 198 (0, ei_push (0, 8) 200, 0, 0)))))) (e_T 212 (e_T 204 (e_T 201 (e_T 200 (e_L 200 (0, ei_bin eF_add 201, 0, 0)) (e_L 201 (0, ei_load 6 0 203, 0, 0))) (e_T 203 (e_L 203 (0, ei_ast elay false 204, 0, 0)) (e_L 204 (0, ei_load 0 2 205, 0, 0)))) (e_T 208 (e_T 205 (e_L 205 (0, ei_getf eft elay 12 0 208, 0, 0)) (e_L 208 (0, ei_load 0 2 209, 0, 0))) (e_T 209 (e_L 209 (0, ei_getf eft elay 12 97 212, 0, 0)) (e_L 212 (0, ei_push (0, 9) 214, 0, 0))))) (e_T 217 (e_T 215 (e_T 214 (e_L 214 (0, ei_bin eF_add 215, 0, 0)) (e_L 215 (0, ei_load 2 0 216, 0, 0))) (e_T 216 (e_L 216 (0, ei_ast elay false 217, 0, 0)) (e_L 217 (0, ei_load 0 2 218, 0, 0)))) (e_T 221 (e_T 218 (e_L 218 (0, ei_getf eft elay 12 0 221, 0, 0)) (e_L 221 (0, ei_load 0 2 222, 0, 0))) (e_T 222 (e_L 222 (0, ei_getf eft elay 12 97 225, 0, 0)) (e_L 225 (0, ei_push (0, 10) 227, 0, 0)))))))
set_option maxRecDepth 20000 in
set_option maxHeartbeats 4000000 in
theorem te_378_63_ok : ∀ pc, e_EOq eft cls elay eI n_378 pc (te_378_63 pc) :=
  (e_Tok2
  (e_Tok2
  (e_Tok2
  (e_Tok2
  (e_Lok (lk_12_714 ho_378 (x_dk dn_378_0_2_ok 13 rfl)))
  (e_Tok2
  (e_Lok (e_st (I := eI) (er_istore (i := 6) (x_dk dn_378_0_2_ok 14 rfl) (by decide +kernel)) nx_stor))
  (e_Lok (ld_iload_6 (x_dk dn_378_0_2_ok 15 rfl)))))
  (e_Tok2
  (e_Tok2
  (e_Lok (e_st (I := eI) (er_i2l (x_dk dn_378_0_2_ok 16 rfl)) (nx_un (fun _ => rfl))))
  (e_Lok (e_st (I := eI) (er_ldc2 (ix := 361) (z := (-1)) (v := (-1)) (x_dk dn_378_0_2_ok 17 rfl) (in_t11 (List.mem_of_getElem? (i := 109) rfl) rfl) (by decide)) (nx_push (Or.inl rfl)))))
  (e_Tok2
  (e_Lok (e_st (I := eI) (er_ldc2 (ix := 352) (z := 63) (v := 63) (x_dk dn_378_0_2_ok 18 rfl) (in_t11 (List.mem_of_getElem? (i := 81) rfl) rfl) (by decide)) (nx_push (Or.inl rfl))))
  (e_Lok (lk_12_301 ho_378 (x_dk dn_378_0_2_ok 19 rfl))))))
  (e_Tok2
  (e_Tok2
  (e_Tok2
  (e_Lok (e_st (I := eI) (er_ifne (off := 5) (tg := 190) (x_dk dn_378_0_2_ok 20 rfl) (by decide)) nx_if1))
  (e_Lok (ps_iconst_2 (x_dk dn_378_0_2_ok 21 rfl))))
  (e_Tok2
  (e_Lok (e_rt (I := eI) (k := 1) ⟨(x_dk dn_378_0_2_ok 22 rfl), rfl⟩))
  (e_Lok (ld_aload_n_0 (x_dk dn_378_0_2_ok 23 rfl)))))
  (e_Tok2
  (e_Tok2
  (e_Lok (lk_12_8g ho_378 (x_dk dn_378_0_2_ok 24 rfl)))
  (e_Lok (ld_aload_n_0 (x_dk dn_378_0_3_ok 0 rfl))))
  (e_Tok2
  (e_Lok (lk_12_651g ho_378 (x_dk dn_378_0_3_ok 1 rfl)))
  (e_Lok (ps_bipush_8 (x_dk dn_378_0_3_ok 2 rfl)))))))
  (e_Tok2
  (e_Tok2
  (e_Tok2
  (e_Tok2
  (e_Lok (sm_iadd (x_dk dn_378_0_3_ok 3 rfl)))
  (e_Lok (ld_iload_6 (x_dk dn_378_0_3_ok 4 rfl))))
  (e_Tok2
  (e_Lok (sm_iastore (x_dk dn_378_0_3_ok 5 rfl)))
  (e_Lok (ld_aload_n_0 (x_dk dn_378_0_3_ok 6 rfl)))))
  (e_Tok2
  (e_Tok2
  (e_Lok (lk_12_8g ho_378 (x_dk dn_378_0_3_ok 7 rfl)))
  (e_Lok (ld_aload_n_0 (x_dk dn_378_0_3_ok 8 rfl))))
  (e_Tok2
  (e_Lok (lk_12_651g ho_378 (x_dk dn_378_0_3_ok 9 rfl)))
  (e_Lok (ps_bipush_9 (x_dk dn_378_0_3_ok 10 rfl))))))
  (e_Tok2
  (e_Tok2
  (e_Tok2
  (e_Lok (sm_iadd (x_dk dn_378_0_3_ok 11 rfl)))
  (e_Lok (ld_iload_n_2 (x_dk dn_378_0_3_ok 12 rfl))))
  (e_Tok2
  (e_Lok (sm_iastore (x_dk dn_378_0_3_ok 13 rfl)))
  (e_Lok (ld_aload_n_0 (x_dk dn_378_0_3_ok 14 rfl)))))
  (e_Tok2
  (e_Tok2
  (e_Lok (lk_12_8g ho_378 (x_dk dn_378_0_3_ok 15 rfl)))
  (e_Lok (ld_aload_n_0 (x_dk dn_378_0_3_ok 16 rfl))))
  (e_Tok2
  (e_Lok (lk_12_651g ho_378 (x_dk dn_378_0_3_ok 17 rfl)))
  (e_Lok (ps_bipush_10 (x_dk dn_378_0_3_ok 18 rfl))))))))
def te_378_94 : Nat → eE := (e_T 252 (e_T 241 (e_T 233 (e_T 228 (e_T 227 (e_L 227 (0, ei_bin eF_add 228, 0, 0)) (e_L 228 (0, ei_load 6 0 230, 0, 0))) (e_T 230 (e_L 230 (0, ei_if1 3 237 233, 0, 0)) (e_L 233 (0, ei_push (0, 0) 234, 0, 0)))) (e_T 237 (e_T 234 (e_L 234 (0, ei_goto 248, 0, 0)) (e_L 237 (0, ei_load 0 2 238, 0, 0))) (e_T 238 (e_L 238 (0, ei_getf eft elay 12 0 241, 0, 0)) (e_L 241 (0, ei_push (0, 352) 244, 0, 0))))) (e_T 248 (e_T 246 (e_T 244 (e_L 244 (0, ei_load 6 0 246, 0, 0)) (e_L 246 (0, ei_bin eF_add 247, 0, 0))) (e_T 247 (e_L 247 (0, ei_ald elay false 248, 0, 0)) (e_L 248 (0, ei_ast elay false 249, 0, 0)))) (e_T 250 (e_T 249 (e_L 249 (0, ei_push (0, 0) 250, 0, 0)) (e_L 250 (1, e_nof, 1, 0))) (e_T 251 (e_L 251 (0, ei_load 0 2 252, 0, 0)) (e_L 252 (0, ei_load 0 2 253, 0, 0)))))) (e_T 269 (e_T 262 (e_T 256 (e_T 253 (e_L 253 (0, ei_getf eft elay 12 98 256, 0, 0)) (e_L 256 (2, e_nof, 396, 2))) (e_T 259 (e_L 259 (0, ei_if1 0 266 262, 0, 0)) (e_L 262 (0, ei_push (0, 0) 263, 0, 0)))) (e_T 266 (e_T 263 (e_L 263 (0, ei_goto 268, 0, 0)) (e_L 266 (0, ei_push (0, 7) 268, 0, 0))) (e_T 268 (e_L 268 (1, e_nof, 1, 0)) (e_L 269 (0, ei_load 0 2 270, 0, 0))))) (e_T 277 (e_T 271 (e_T 270 (e_L 270 (0, ei_load 0 2 271, 0, 0)) (e_L 271 (0, ei_getf eft elay 12 98 274, 0, 0))) (e_T 274 (e_L 274 (2, e_nof, 397, 2)) (e_L 277 (0, ei_if1 0 284 280, 0, 0)))) (e_T 281 (e_T 280 (e_L 280 (0, ei_push (0, 0) 281, 0, 0)) (e_L 281 (0, ei_goto 286, 0, 0))) (e_T 284 (e_L 284 (0, ei_push (0, 7) 286, 0, 0)) (e_L 286 (1, e_nof, 1, 0)))))))
set_option maxRecDepth 20000 in
set_option maxHeartbeats 4000000 in
theorem te_378_94_ok : ∀ pc, e_EOq eft cls elay eI n_378 pc (te_378_94 pc) :=
  (e_Tok2
  (e_Tok2
  (e_Tok2
  (e_Tok2
  (e_Tok2
  (e_Lok (sm_iadd (x_dk dn_378_0_3_ok 19 rfl)))
  (e_Lok (ld_iload_6 (x_dk dn_378_0_3_ok 20 rfl))))
  (e_Tok2
  (e_Lok (e_st (I := eI) (er_ifge (off := 7) (tg := 237) (x_dk dn_378_0_3_ok 21 rfl) (by decide)) nx_if1))
  (e_Lok (ps_iconst_0 (x_dk dn_378_0_3_ok 22 rfl)))))
  (e_Tok2
  (e_Tok2
  (e_Lok (e_st (I := eI) (er_goto (off := 14) (tg := 248) (x_dk dn_378_0_3_ok 23 rfl) (by decide)) nx_goto))
  (e_Lok (ld_aload_n_0 (x_dk dn_378_0_3_ok 24 rfl))))
  (e_Tok2
  (e_Lok (lk_12_8g ho_378 (x_dk dn_378_1_0_ok 0 rfl)))
  (e_Lok (ps_sipush_352 (x_dk dn_378_1_0_ok 1 rfl))))))
  (e_Tok2
  (e_Tok2
  (e_Tok2
  (e_Lok (ld_iload_6 (x_dk dn_378_1_0_ok 2 rfl)))
  (e_Lok (sm_iadd (x_dk dn_378_1_0_ok 3 rfl))))
  (e_Tok2
  (e_Lok (sm_iaload (x_dk dn_378_1_0_ok 4 rfl)))
  (e_Lok (sm_iastore (x_dk dn_378_1_0_ok 5 rfl)))))
  (e_Tok2
  (e_Tok2
  (e_Lok (ps_iconst_0 (x_dk dn_378_1_0_ok 6 rfl)))
  (e_Lok (e_rt (I := eI) (k := 1) ⟨(x_dk dn_378_1_0_ok 7 rfl), rfl⟩)))
  (e_Tok2
  (e_Lok (ld_aload_n_0 (x_dk dn_378_1_0_ok 8 rfl)))
  (e_Lok (ld_aload_n_0 (x_dk dn_378_1_0_ok 9 rfl)))))))
  (e_Tok2
  (e_Tok2
  (e_Tok2
  (e_Tok2
  (e_Lok (lk_12_663g ho_378 (x_dk dn_378_1_0_ok 10 rfl)))
  (e_Lok (lk_12_738 ho_378 (x_dk dn_378_1_0_ok 11 rfl))))
  (e_Tok2
  (e_Lok (e_st (I := eI) (er_ifeq (off := 7) (tg := 266) (x_dk dn_378_1_0_ok 12 rfl) (by decide)) nx_if1))
  (e_Lok (ps_iconst_0 (x_dk dn_378_1_0_ok 13 rfl)))))
  (e_Tok2
  (e_Tok2
  (e_Lok (e_st (I := eI) (er_goto (off := 5) (tg := 268) (x_dk dn_378_1_0_ok 14 rfl) (by decide)) nx_goto))
  (e_Lok (ps_bipush_7 (x_dk dn_378_1_0_ok 15 rfl))))
  (e_Tok2
  (e_Lok (e_rt (I := eI) (k := 1) ⟨(x_dk dn_378_1_0_ok 16 rfl), rfl⟩))
  (e_Lok (ld_aload_n_0 (x_dk dn_378_1_0_ok 17 rfl))))))
  (e_Tok2
  (e_Tok2
  (e_Tok2
  (e_Lok (ld_aload_n_0 (x_dk dn_378_1_0_ok 18 rfl)))
  (e_Lok (lk_12_663g ho_378 (x_dk dn_378_1_0_ok 19 rfl))))
  (e_Tok2
  (e_Lok (lk_12_741 ho_378 (x_dk dn_378_1_0_ok 20 rfl)))
  (e_Lok (e_st (I := eI) (er_ifeq (off := 7) (tg := 284) (x_dk dn_378_1_0_ok 21 rfl) (by decide)) nx_if1))))
  (e_Tok2
  (e_Tok2
  (e_Lok (ps_iconst_0 (x_dk dn_378_1_0_ok 22 rfl)))
  (e_Lok (e_st (I := eI) (er_goto (off := 5) (tg := 286) (x_dk dn_378_1_0_ok 23 rfl) (by decide)) nx_goto)))
  (e_Tok2
  (e_Lok (ps_bipush_7 (x_dk dn_378_1_0_ok 24 rfl)))
  (e_Lok (e_rt (I := eI) (k := 1) ⟨(x_dk dn_378_1_1_ok 0 rfl), rfl⟩)))))))
def te_378 : Nat → eE := (e_T 167 (e_T 106 te_378_0 te_378_31) (e_T 225 te_378_63 te_378_94))
theorem te_378_ok : ∀ pc, e_EOq eft cls elay eI n_378 pc (te_378 pc) := (e_Tok2 ((e_Tok2 (te_378_0_ok) (te_378_31_ok))) ((e_Tok2 (te_378_63_ok) (te_378_94_ok))))
theorem ho_379 : (xm_y n_379).cls = "RobotCellHouseModel" := rfl
def dn_379_0_0 : List (Nat × Instr × Nat) := [(0, .iload_n 1, 1), (1, .i2l, 1), (2, .lconst 0, 1), (3, .ldc2_w 367, 3), (6, .invokestatic 301, 3), (9, .ifCond .ne 5, 3), (12, .iconst 2, 1), (13, .ireturn, 1), (14, .aload_n 0, 1), (15, .getfield 8, 3), (18, .sipush 20868, 3), (21, .iload_n 1, 1), (22, .iadd, 1), (23, .iaload, 1), (24, .aload_n 0, 1), (25, .getfield 660, 3), (28, .if_icmp .ne 6, 3), (31, .bipush 9, 2), (33, .ireturn, 1), (34, .aload_n 0, 1), (35, .getfield 8, 3), (38, .sipush 20868, 3), (41, .iload_n 1, 1), (42, .iadd, 1), (43, .iaload, 1)]
set_option maxRecDepth 20000 in
theorem dn_379_0_0_ok : dn_379_0_0.all (fun q => decide (decode (xm_b n_379) q.1 = .ok (q.2.1, q.2.2))) = true := xa_g_ok (by decide +kernel)
def dn_379_0_1 : List (Nat × Instr × Nat) := [(44, .ifCond .ge 20, 3), (47, .aload_n 0, 1), (48, .getfield 8, 3), (51, .sipush 20868, 3), (54, .iload_n 1, 1), (55, .iadd, 1), (56, .aload_n 0, 1), (57, .getfield 660, 3), (60, .iastore, 1), (61, .goto 60, 3), (64, .aload_n 0, 1), (65, .getfield 8, 3), (68, .aload_n 0, 1), (69, .getfield 651, 3), (72, .iconst 5, 1), (73, .iastore, 1), (74, .aload_n 0, 1), (75, .getfield 8, 3), (78, .aload_n 0, 1), (79, .getfield 651, 3), (82, .iconst 5, 1), (83, .iadd, 1), (84, .iload_n 1, 1), (85, .iastore, 1), (86, .aload_n 0, 1)]
set_option maxRecDepth 20000 in
theorem dn_379_0_1_ok : dn_379_0_1.all (fun q => decide (decode (xm_b n_379) q.1 = .ok (q.2.1, q.2.2))) = true := xa_g_ok (by decide +kernel)
def dn_379_0_2 : List (Nat × Instr × Nat) := [(87, .getfield 8, 3), (90, .aload_n 0, 1), (91, .getfield 651, 3), (94, .bipush 6, 2), (96, .iadd, 1), (97, .aload_n 0, 1), (98, .getfield 8, 3), (101, .bipush 6, 2), (103, .iaload, 1), (104, .iastore, 1), (105, .aload_n 0, 1), (106, .getfield 8, 3), (109, .bipush 6, 2), (111, .dup2, 1), (112, .iaload, 1), (113, .iconst 1, 1), (114, .iadd, 1), (115, .iastore, 1), (116, .aload_n 0, 1), (117, .iconst 1, 1), (118, .putfield 669, 3), (121, .iconst 0, 1), (122, .ireturn, 1)]
set_option maxRecDepth 20000 in
theorem dn_379_0_2_ok : dn_379_0_2.all (fun q => decide (decode (xm_b n_379) q.1 = .ok (q.2.1, q.2.2))) = true := xa_g_ok (by decide +kernel)
def te_379_0 : Nat → eE := (e_T 31 (e_T 14 (e_T 3 (e_T 1 (e_T 0 (e_L 0 (0, ei_load 1 0 1, 0, 0)) (e_L 1 (0, ei_un (fun x => (4, x)) 2, 0, 0))) (e_T 2 (e_L 2 (0, ei_push (4, 0) 3, 0, 0)) (e_L 3 (0, ei_push (4, 7) 6, 0, 0)))) (e_T 9 (e_T 6 (e_L 6 (2, e_nof, 266, 3)) (e_L 9 (0, ei_if1 1 14 12, 0, 0))) (e_T 12 (e_L 12 (0, ei_push (0, 2) 13, 0, 0)) (e_T 13 (e_L 13 (1, e_nof, 1, 0)) (e_L 14 (0, ei_load 0 2 15, 0, 0)))))) (e_T 22 (e_T 18 (e_T 15 (e_L 15 (0, ei_getf eft elay 12 0 18, 0, 0)) (e_L 18 (0, ei_push (0, 20868) 21, 0, 0))) (e_T 21 (e_L 21 (0, ei_load 1 0 22, 0, 0)) (e_L 22 (0, ei_bin eF_add 23, 0, 0)))) (e_T 24 (e_T 23 (e_L 23 (0, ei_ald elay false 24, 0, 0)) (e_L 24 (0, ei_load 0 2 25, 0, 0))) (e_T 25 (e_L 25 (0, ei_getf eft elay 12 96 28, 0, 0)) (e_T 28 (e_L 28 (0, ei_if2 1 34 31, 0, 0)) (e_L 31 (0, ei_push (0, 9) 33, 0, 0))))))) (e_T 47 (e_T 38 (e_T 34 (e_T 33 (e_L 33 (1, e_nof, 1, 0)) (e_L 34 (0, ei_load 0 2 35, 0, 0))) (e_T 35 (e_L 35 (0, ei_getf eft elay 12 0 38, 0, 0)) (e_L 38 (0, ei_push (0, 20868) 41, 0, 0)))) (e_T 42 (e_T 41 (e_L 41 (0, ei_load 1 0 42, 0, 0)) (e_L 42 (0, ei_bin eF_add 43, 0, 0))) (e_T 43 (e_L 43 (0, ei_ald elay false 44, 0, 0)) (e_T 44 (e_L 44 (0, ei_if1 3 64 47, 0, 0)) (e_L 47 (0, ei_load 0 2 48, 0, 0)))))) (e_T 55 (e_T 51 (e_T 48 (e_L 48 (0, ei_getf eft elay 12 0 51, 0, 0)) (e_L 51 (0, ei_push (0, 20868) 54, 0, 0))) (e_T 54 (e_L 54 (0, ei_load 1 0 55, 0, 0)) (e_L 55 (0, ei_bin eF_add 56, 0, 0)))) (e_T 57 (e_T 56 (e_L 56 (0, ei_load 0 2 57, 0, 0)) (e_L 57 (0, ei_getf eft elay 12 96 60, 0, 0))) (e_T 60 (e_L 60 (0, ei_ast elay false 61, 0, 0)) (e_T 61 (e_L 61 (0, ei_goto 121, 0, 0)) (e_L 64 (0, ei_load 0 2 65, 0, 0))))))))
set_option maxRecDepth 20000 in
set_option maxHeartbeats 4000000 in
theorem te_379_0_ok : ∀ pc, e_EOq eft cls elay eI n_379 pc (te_379_0 pc) :=
  (e_Tok2
  (e_Tok2
  (e_Tok2
  (e_Tok2
  (e_Tok2
  (e_Lok (ld_iload_n_1 (x_dk dn_379_0_0_ok 0 rfl)))
  (e_Lok (e_st (I := eI) (er_i2l (x_dk dn_379_0_0_ok 1 rfl)) (nx_un (fun _ => rfl)))))
  (e_Tok2
  (e_Lok (ps_lconst_0 (x_dk dn_379_0_0_ok 2 rfl)))
  (e_Lok (e_st (I := eI) (er_ldc2 (ix := 367) (z := 7) (v := 7) (x_dk dn_379_0_0_ok 3 rfl) (in_t11 (List.mem_of_getElem? (i := 120) rfl) rfl) (by decide)) (nx_push (Or.inl rfl))))))
  (e_Tok2
  (e_Tok2
  (e_Lok (lk_12_301 ho_379 (x_dk dn_379_0_0_ok 4 rfl)))
  (e_Lok (e_st (I := eI) (er_ifne (off := 5) (tg := 14) (x_dk dn_379_0_0_ok 5 rfl) (by decide)) nx_if1)))
  (e_Tok2
  (e_Lok (ps_iconst_2 (x_dk dn_379_0_0_ok 6 rfl)))
  (e_Tok2
  (e_Lok (e_rt (I := eI) (k := 1) ⟨(x_dk dn_379_0_0_ok 7 rfl), rfl⟩))
  (e_Lok (ld_aload_n_0 (x_dk dn_379_0_0_ok 8 rfl)))))))
  (e_Tok2
  (e_Tok2
  (e_Tok2
  (e_Lok (lk_12_8g ho_379 (x_dk dn_379_0_0_ok 9 rfl)))
  (e_Lok (ps_sipush_20868 (x_dk dn_379_0_0_ok 10 rfl))))
  (e_Tok2
  (e_Lok (ld_iload_n_1 (x_dk dn_379_0_0_ok 11 rfl)))
  (e_Lok (sm_iadd (x_dk dn_379_0_0_ok 12 rfl)))))
  (e_Tok2
  (e_Tok2
  (e_Lok (sm_iaload (x_dk dn_379_0_0_ok 13 rfl)))
  (e_Lok (ld_aload_n_0 (x_dk dn_379_0_0_ok 14 rfl))))
  (e_Tok2
  (e_Lok (lk_12_660g ho_379 (x_dk dn_379_0_0_ok 15 rfl)))
  (e_Tok2
  (e_Lok (e_st (I := eI) (er_icmpne (off := 6) (tg := 34) (x_dk dn_379_0_0_ok 16 rfl) (by decide)) nx_if2))
  (e_Lok (ps_bipush_9 (x_dk dn_379_0_0_ok 17 rfl))))))))
  (e_Tok2
  (e_Tok2
  (e_Tok2
  (e_Tok2
  (e_Lok (e_rt (I := eI) (k := 1) ⟨(x_dk dn_379_0_0_ok 18 rfl), rfl⟩))
  (e_Lok (ld_aload_n_0 (x_dk dn_379_0_0_ok 19 rfl))))
  (e_Tok2
  (e_Lok (lk_12_8g ho_379 (x_dk dn_379_0_0_ok 20 rfl)))
  (e_Lok (ps_sipush_20868 (x_dk dn_379_0_0_ok 21 rfl)))))
  (e_Tok2
  (e_Tok2
  (e_Lok (ld_iload_n_1 (x_dk dn_379_0_0_ok 22 rfl)))
  (e_Lok (sm_iadd (x_dk dn_379_0_0_ok 23 rfl))))
  (e_Tok2
  (e_Lok (sm_iaload (x_dk dn_379_0_0_ok 24 rfl)))
  (e_Tok2
  (e_Lok (e_st (I := eI) (er_ifge (off := 20) (tg := 64) (x_dk dn_379_0_1_ok 0 rfl) (by decide)) nx_if1))
  (e_Lok (ld_aload_n_0 (x_dk dn_379_0_1_ok 1 rfl)))))))
  (e_Tok2
  (e_Tok2
  (e_Tok2
  (e_Lok (lk_12_8g ho_379 (x_dk dn_379_0_1_ok 2 rfl)))
  (e_Lok (ps_sipush_20868 (x_dk dn_379_0_1_ok 3 rfl))))
  (e_Tok2
  (e_Lok (ld_iload_n_1 (x_dk dn_379_0_1_ok 4 rfl)))
  (e_Lok (sm_iadd (x_dk dn_379_0_1_ok 5 rfl)))))
  (e_Tok2
  (e_Tok2
  (e_Lok (ld_aload_n_0 (x_dk dn_379_0_1_ok 6 rfl)))
  (e_Lok (lk_12_660g ho_379 (x_dk dn_379_0_1_ok 7 rfl))))
  (e_Tok2
  (e_Lok (sm_iastore (x_dk dn_379_0_1_ok 8 rfl)))
  (e_Tok2
  (e_Lok (e_st (I := eI) (er_goto (off := 60) (tg := 121) (x_dk dn_379_0_1_ok 9 rfl) (by decide)) nx_goto))
  (e_Lok (ld_aload_n_0 (x_dk dn_379_0_1_ok 10 rfl)))))))))
def te_379_36 : Nat → eE := (e_T 94 (e_T 79 (e_T 72 (e_T 68 (e_T 65 (e_L 65 (0, ei_getf eft elay 12 0 68, 0, 0)) (e_L 68 (0, ei_load 0 2 69, 0, 0))) (e_T 69 (e_L 69 (0, ei_getf eft elay 12 97 72, 0, 0)) (e_L 72 (0, ei_push (0, 5) 73, 0, 0)))) (e_T 74 (e_T 73 (e_L 73 (0, ei_ast elay false 74, 0, 0)) (e_L 74 (0, ei_load 0 2 75, 0, 0))) (e_T 75 (e_L 75 (0, ei_getf eft elay 12 0 78, 0, 0)) (e_T 78 (e_L 78 (0, ei_load 0 2 79, 0, 0)) (e_L 79 (0, ei_getf eft elay 12 97 82, 0, 0)))))) (e_T 85 (e_T 83 (e_T 82 (e_L 82 (0, ei_push (0, 5) 83, 0, 0)) (e_L 83 (0, ei_bin eF_add 84, 0, 0))) (e_T 84 (e_L 84 (0, ei_load 1 0 85, 0, 0)) (e_L 85 (0, ei_ast elay false 86, 0, 0)))) (e_T 87 (e_T 86 (e_L 86 (0, ei_load 0 2 87, 0, 0)) (e_L 87 (0, ei_getf eft elay 12 0 90, 0, 0))) (e_T 90 (e_L 90 (0, ei_load 0 2 91, 0, 0)) (e_T 91 (e_L 91 (0, ei_getf eft elay 12 97 94, 0, 0)) (e_L 94 (0, ei_push (0, 6) 96, 0, 0))))))) (e_T 109 (e_T 101 (e_T 97 (e_T 96 (e_L 96 (0, ei_bin eF_add 97, 0, 0)) (e_L 97 (0, ei_load 0 2 98, 0, 0))) (e_T 98 (e_L 98 (0, ei_getf eft elay 12 0 101, 0, 0)) (e_L 101 (0, ei_push (0, 6) 103, 0, 0)))) (e_T 104 (e_T 103 (e_L 103 (0, ei_ald elay false 104, 0, 0)) (e_L 104 (0, ei_ast elay false 105, 0, 0))) (e_T 105 (e_L 105 (0, ei_load 0 2 106, 0, 0)) (e_T 106 (e_L 106 (0, ei_getf eft elay 12 0 109, 0, 0)) (e_L 109 (0, ei_push (0, 6) 111, 0, 0)))))) (e_T 115 (e_T 112 (e_T 111 (e_L 111 (0, ei_stk ef_dup2 112, 0, 0)) (e_L 112 (0, ei_ald elay false 113, 0, 0))) (e_T 113 (e_L 113 (0, ei_push (0, 1) 114, 0, 0)) (e_T 114 (e_L 114 (0, ei_bin eF_add 115, 0, 0)) (e_L 115 (0, ei_ast elay false 116, 0, 0))))) (e_T 117 (e_T 116 (e_L 116 (0, ei_load 0 2 117, 0, 0)) (e_L 117 (0, ei_push (0, 1) 118, 0, 0))) (e_T 118 (e_L 118 (0, ei_putf eft elay 12 100 1 121, 0, 0)) (e_T 121 (e_L 121 (0, ei_push (0, 0) 122, 0, 0)) (e_L 122 (1, e_nof, 1, 0))))))))
set_option maxRecDepth 20000 in
set_option maxHeartbeats 4000000 in
theorem te_379_36_ok : ∀ pc, e_EOq eft cls elay eI n_379 pc (te_379_36 pc) :=
  (e_Tok2
  (e_Tok2
  (e_Tok2
  (e_Tok2
  (e_Tok2
  (e_Lok (lk_12_8g ho_379 (x_dk dn_379_0_1_ok 11 rfl)))
  (e_Lok (ld_aload_n_0 (x_dk dn_379_0_1_ok 12 rfl))))
  (e_Tok2
  (e_Lok (lk_12_651g ho_379 (x_dk dn_379_0_1_ok 13 rfl)))
  (e_Lok (ps_iconst_5 (x_dk dn_379_0_1_ok 14 rfl)))))
  (e_Tok2
  (e_Tok2
  (e_Lok (sm_iastore (x_dk dn_379_0_1_ok 15 rfl)))
  (e_Lok (ld_aload_n_0 (x_dk dn_379_0_1_ok 16 rfl))))
  (e_Tok2
  (e_Lok (lk_12_8g ho_379 (x_dk dn_379_0_1_ok 17 rfl)))
  (e_Tok2
  (e_Lok (ld_aload_n_0 (x_dk dn_379_0_1_ok 18 rfl)))
  (e_Lok (lk_12_651g ho_379 (x_dk dn_379_0_1_ok 19 rfl)))))))
  (e_Tok2
  (e_Tok2
  (e_Tok2
  (e_Lok (ps_iconst_5 (x_dk dn_379_0_1_ok 20 rfl)))
  (e_Lok (sm_iadd (x_dk dn_379_0_1_ok 21 rfl))))
  (e_Tok2
  (e_Lok (ld_iload_n_1 (x_dk dn_379_0_1_ok 22 rfl)))
  (e_Lok (sm_iastore (x_dk dn_379_0_1_ok 23 rfl)))))
  (e_Tok2
  (e_Tok2
  (e_Lok (ld_aload_n_0 (x_dk dn_379_0_1_ok 24 rfl)))
  (e_Lok (lk_12_8g ho_379 (x_dk dn_379_0_2_ok 0 rfl))))
  (e_Tok2
  (e_Lok (ld_aload_n_0 (x_dk dn_379_0_2_ok 1 rfl)))
  (e_Tok2
  (e_Lok (lk_12_651g ho_379 (x_dk dn_379_0_2_ok 2 rfl)))
  (e_Lok (ps_bipush_6 (x_dk dn_379_0_2_ok 3 rfl))))))))
  (e_Tok2
  (e_Tok2
  (e_Tok2
  (e_Tok2
  (e_Lok (sm_iadd (x_dk dn_379_0_2_ok 4 rfl)))
  (e_Lok (ld_aload_n_0 (x_dk dn_379_0_2_ok 5 rfl))))
  (e_Tok2
  (e_Lok (lk_12_8g ho_379 (x_dk dn_379_0_2_ok 6 rfl)))
  (e_Lok (ps_bipush_6 (x_dk dn_379_0_2_ok 7 rfl)))))
  (e_Tok2
  (e_Tok2
  (e_Lok (sm_iaload (x_dk dn_379_0_2_ok 8 rfl)))
  (e_Lok (sm_iastore (x_dk dn_379_0_2_ok 9 rfl))))
  (e_Tok2
  (e_Lok (ld_aload_n_0 (x_dk dn_379_0_2_ok 10 rfl)))
  (e_Tok2
  (e_Lok (lk_12_8g ho_379 (x_dk dn_379_0_2_ok 11 rfl)))
  (e_Lok (ps_bipush_6 (x_dk dn_379_0_2_ok 12 rfl)))))))
  (e_Tok2
  (e_Tok2
  (e_Tok2
  (e_Lok (e_st (I := eI) (er_dup2 (x_dk dn_379_0_2_ok 13 rfl)) (nx_stk bf_dup2)))
  (e_Lok (sm_iaload (x_dk dn_379_0_2_ok 14 rfl))))
  (e_Tok2
  (e_Lok (ps_iconst_1 (x_dk dn_379_0_2_ok 15 rfl)))
  (e_Tok2
  (e_Lok (sm_iadd (x_dk dn_379_0_2_ok 16 rfl)))
  (e_Lok (sm_iastore (x_dk dn_379_0_2_ok 17 rfl))))))
  (e_Tok2
  (e_Tok2
  (e_Lok (ld_aload_n_0 (x_dk dn_379_0_2_ok 18 rfl)))
  (e_Lok (ps_iconst_1 (x_dk dn_379_0_2_ok 19 rfl))))
  (e_Tok2
  (e_Lok (lk_12_669p ho_379 (x_dk dn_379_0_2_ok 20 rfl)))
  (e_Tok2
  (e_Lok (ps_iconst_0 (x_dk dn_379_0_2_ok 21 rfl)))
  (e_Lok (e_rt (I := eI) (k := 1) ⟨(x_dk dn_379_0_2_ok 22 rfl), rfl⟩))))))))
def te_379 : Nat → eE := (e_T 64 te_379_0 te_379_36)
theorem te_379_ok : ∀ pc, e_EOq eft cls elay eI n_379 pc (te_379 pc) := (e_Tok2 (te_379_0_ok) (te_379_36_ok))
theorem ho_380 : (xm_y n_380).cls = "RobotCellHouseModel" := rfl
def dn_380_0_0 : List (Nat × Instr × Nat) := [(0, .iload_n 1, 1), (1, .aload_n 0, 1), (2, .getfield 43, 3), (5, .aload_n 0, 1), (6, .getfield 663, 3), (9, .iaload, 1), (10, .if_icmp .ne 7, 3), (13, .iconst 1, 1), (14, .goto 4, 3), (17, .iconst 0, 1), (18, .istore_n 3, 1), (19, .iconst 0, 1), (20, .istore 4, 2), (22, .iload 4, 2), (24, .aload_n 0, 1), (25, .getfield 43, 3), (28, .aload_n 0, 1), (29, .getfield 663, 3), (32, .iaload, 1), (33, .if_icmp .ge 57, 3), (36, .iload_n 3, 1), (37, .ifCond .eq 53, 3), (40, .aload_n 0, 1), (41, .getfield 222, 3), (44, .iload 4, 2)]
set_option maxRecDepth 20000 in
theorem dn_380_0_0_ok : dn_380_0_0.all (fun q => decide (decode (xm_b n_380) q.1 = .ok (q.2.1, q.2.2))) = true := xa_g_ok (by decide +kernel)
def dn_380_0_1 : List (Nat × Instr × Nat) := [(46, .iaload, 1), (47, .i2l, 1), (48, .aload_n 0, 1), (49, .getfield 49, 3), (52, .bipush 6, 2), (54, .aload_n 0, 1), (55, .getfield 663, 3), (58, .imul, 1), (59, .iload 4, 2), (61, .iadd, 1), (62, .iaload, 1), (63, .i2l, 1), (64, .aload_n 0, 1), (65, .getfield 52, 3), (68, .bipush 6, 2), (70, .aload_n 0, 1), (71, .getfield 663, 3), (74, .imul, 1), (75, .iload 4, 2), (77, .iadd, 1), (78, .iaload, 1), (79, .i2l, 1), (80, .invokestatic 301, 3), (83, .istore_n 3, 1), (84, .iinc 4 1, 3)]
set_option maxRecDepth 20000 in
theorem dn_380_0_1_ok : dn_380_0_1.all (fun q => decide (decode (xm_b n_380) q.1 = .ok (q.2.1, q.2.2))) = true := xa_g_ok (by decide +kernel)
def dn_380_0_2 : List (Nat × Instr × Nat) := [(87, .goto (-65), 3), (90, .aload_n 0, 1), (91, .getfield 663, 3), (94, .invokestatic 294, 3), (97, .istore 4, 2), (99, .iload_n 3, 1), (100, .ifCond .ne 7, 3), (103, .iconst 3, 1), (104, .goto 33, 3), (107, .aload_n 0, 1), (108, .getfield 8, 3), (111, .iload 4, 2), (113, .iconst 0, 1), (114, .iadd, 1), (115, .iaload, 1), (116, .ifCond .eq 7, 3), (119, .iconst 4, 1), (120, .goto 17, 3), (123, .aload_n 0, 1), (124, .getfield 8, 3), (127, .iconst 1, 1), (128, .iaload, 1), (129, .ifCond .ne 7, 3), (132, .iconst 5, 1), (133, .goto 4, 3)]
set_option maxRecDepth 20000 in
theorem dn_380_0_2_ok : dn_380_0_2.all (fun q => decide (decode (xm_b n_380) q.1 = .ok (q.2.1, q.2.2))) = true := xa_g_ok (by decide +kernel)
def dn_380_0_3 : List (Nat × Instr × Nat) := [(136, .iconst 0, 1), (137, .istore 5, 2), (139, .iload 5, 2), (141, .ifCond .eq 10, 3), (144, .aload_n 0, 1), (145, .iload 5, 2), (147, .invokevirtual 672, 3), (150, .return_, 1), (151, .iconst 0, 1), (152, .istore 6, 2), (154, .iload 6, 2), (156, .iload_n 1, 1), (157, .if_icmp .ge 29, 3), (160, .aload_n 0, 1), (161, .getfield 8, 3), (164, .iload 4, 2), (166, .bipush 28, 2), (168, .iadd, 1), (169, .iload 6, 2), (171, .iadd, 1), (172, .aload_n 0, 1), (173, .getfield 222, 3), (176, .iload 6, 2), (178, .iaload, 1), (179, .iastore, 1)]
set_option maxRecDepth 20000 in
theorem dn_380_0_3_ok : dn_380_0_3.all (fun q => decide (decode (xm_b n_380) q.1 = .ok (q.2.1, q.2.2))) = true := xa_g_ok (by decide +kernel)
def dn_380_1_0 : List (Nat × Instr × Nat) := [(180, .iinc 6 1, 3), (183, .goto (-29), 3), (186, .aload_n 0, 1), (187, .aload_n 0, 1), (188, .getfield 663, 3), (191, .invokevirtual 744, 3), (194, .aload_n 0, 1), (195, .getfield 8, 3), (198, .iload 4, 2), (200, .bipush 9, 2), (202, .iadd, 1), (203, .aload_n 0, 1), (204, .getfield 660, 3), (207, .iastore, 1), (208, .aload_n 0, 1), (209, .getfield 8, 3), (212, .aload_n 0, 1), (213, .getfield 651, 3), (216, .iconst 2, 1), (217, .iastore, 1), (218, .aload_n 0, 1), (219, .getfield 8, 3), (222, .aload_n 0, 1), (223, .getfield 651, 3), (226, .bipush 7, 2)]
set_option maxRecDepth 20000 in
theorem dn_380_1_0_ok : dn_380_1_0.all (fun q => decide (decode (xm_b n_380) q.1 = .ok (q.2.1, q.2.2))) = true := xa_g_ok (by decide +kernel)
def dn_380_1_1 : List (Nat × Instr × Nat) := [(228, .iadd, 1), (229, .iconst 0, 1), (230, .iastore, 1), (231, .aload_n 0, 1), (232, .iconst 1, 1), (233, .putfield 669, 3), (236, .aload_n 0, 1), (237, .iload_n 2, 1), (238, .iconst 1, 1), (239, .iadd, 1), (240, .invokevirtual 678, 3), (243, .return_, 1)]
set_option maxRecDepth 20000 in
theorem dn_380_1_1_ok : dn_380_1_1.all (fun q => decide (decode (xm_b n_380) q.1 = .ok (q.2.1, q.2.2))) = true := xa_g_ok (by decide +kernel)
def te_380_0 : Nat → eE := (e_T 28 (e_T 13 (e_T 5 (e_T 1 (e_T 0 (e_L 0 (0, ei_load 1 0 1, 0, 0)) (e_L 1 (0, ei_load 0 2 2, 0, 0))) (e_T 2 (e_L 2 (0, ei_getf eft elay 12 15 5, 0, 0)) (e_L 5 (0, ei_load 0 2 6, 0, 0)))) (e_T 9 (e_T 6 (e_L 6 (0, ei_getf eft elay 12 98 9, 0, 0)) (e_L 9 (0, ei_ald elay false 10, 0, 0))) (e_T 10 (e_L 10 (0, ei_if2 1 17 13, 0, 0)) (e_L 13 (0, ei_push (0, 1) 14, 0, 0))))) (e_T 19 (e_T 17 (e_T 14 (e_L 14 (0, ei_goto 18, 0, 0)) (e_L 17 (0, ei_push (0, 0) 18, 0, 0))) (e_T 18 (e_L 18 (0, ei_stor 3 0 19, 0, 0)) (e_L 19 (0, ei_push (0, 0) 20, 0, 0)))) (e_T 22 (e_T 20 (e_L 20 (0, ei_stor 4 0 22, 0, 0)) (e_L 22 (0, ei_load 4 0 24, 0, 0))) (e_T 24 (e_L 24 (0, ei_load 0 2 25, 0, 0)) (e_T 25 (e_L 25 (0, ei_getf eft elay 12 15 28, 0, 0)) (e_L 28 (0, ei_load 0 2 29, 0, 0))))))) (e_T 44 (e_T 36 (e_T 32 (e_T 29 (e_L 29 (0, ei_getf eft elay 12 98 32, 0, 0)) (e_L 32 (0, ei_ald elay false 33, 0, 0))) (e_T 33 (e_L 33 (0, ei_if2 3 90 36, 0, 0)) (e_L 36 (0, ei_load 3 0 37, 0, 0)))) (e_T 40 (e_T 37 (e_L 37 (0, ei_if1 0 90 40, 0, 0)) (e_L 40 (0, ei_load 0 2 41, 0, 0))) (e_T 41 (e_L 41 (0, ei_getf eft elay 12 101 44, 0, 0)) (e_L 44 (0, ei_load 4 0 46, 0, 0))))) (e_T 49 (e_T 47 (e_T 46 (e_L 46 (0, ei_ald elay false 47, 0, 0)) (e_L 47 (0, ei_un (fun x => (4, x)) 48, 0, 0))) (e_T 48 (e_L 48 (0, ei_load 0 2 49, 0, 0)) (e_L 49 (0, ei_getf eft elay 12 17 52, 0, 0)))) (e_T 54 (e_T 52 (e_L 52 (0, ei_push (0, 6) 54, 0, 0)) (e_L 54 (0, ei_load 0 2 55, 0, 0))) (e_T 55 (e_L 55 (0, ei_getf eft elay 12 98 58, 0, 0)) (e_T 58 (e_L 58 (0, ei_bin eF_mul 59, 0, 0)) (e_L 59 (0, ei_load 4 0 61, 0, 0))))))))
set_option maxRecDepth 20000 in
set_option maxHeartbeats 4000000 in
theorem te_380_0_ok : ∀ pc, e_EOq eft cls elay eI n_380 pc (te_380_0 pc) :=
  (e_Tok2
  (e_Tok2
  (e_Tok2
  (e_Tok2
  (e_Tok2
  (e_Lok (ld_iload_n_1 (x_dk dn_380_0_0_ok 0 rfl)))
  (e_Lok (ld_aload_n_0 (x_dk dn_380_0_0_ok 1 rfl))))
  (e_Tok2
  (e_Lok (lk_12_43g ho_380 (x_dk dn_380_0_0_ok 2 rfl)))
  (e_Lok (ld_aload_n_0 (x_dk dn_380_0_0_ok 3 rfl)))))
  (e_Tok2
  (e_Tok2
  (e_Lok (lk_12_663g ho_380 (x_dk dn_380_0_0_ok 4 rfl)))
  (e_Lok (sm_iaload (x_dk dn_380_0_0_ok 5 rfl))))
  (e_Tok2
  (e_Lok (e_st (I := eI) (er_icmpne (off := 7) (tg := 17) (x_dk dn_380_0_0_ok 6 rfl) (by decide)) nx_if2))
  (e_Lok (ps_iconst_1 (x_dk dn_380_0_0_ok 7 rfl))))))
  (e_Tok2
  (e_Tok2
  (e_Tok2
  (e_Lok (e_st (I := eI) (er_goto (off := 4) (tg := 18) (x_dk dn_380_0_0_ok 8 rfl) (by decide)) nx_goto))
  (e_Lok (ps_iconst_0 (x_dk dn_380_0_0_ok 9 rfl))))
  (e_Tok2
  (e_Lok (e_st (I := eI) (er_istore_n (i := 3) (x_dk dn_380_0_0_ok 10 rfl) (by decide +kernel)) nx_stor))
  (e_Lok (ps_iconst_0 (x_dk dn_380_0_0_ok 11 rfl)))))
  (e_Tok2
  (e_Tok2
  (e_Lok (e_st (I := eI) (er_istore (i := 4) (x_dk dn_380_0_0_ok 12 rfl) (by decide +kernel)) nx_stor))
  (e_Lok (ld_iload_4 (x_dk dn_380_0_0_ok 13 rfl))))
  (e_Tok2
  (e_Lok (ld_aload_n_0 (x_dk dn_380_0_0_ok 14 rfl)))
  (e_Tok2
  (e_Lok (lk_12_43g ho_380 (x_dk dn_380_0_0_ok 15 rfl)))
  (e_Lok (ld_aload_n_0 (x_dk dn_380_0_0_ok 16 rfl))))))))
  (e_Tok2
  (e_Tok2
  (e_Tok2
  (e_Tok2
  (e_Lok (lk_12_663g ho_380 (x_dk dn_380_0_0_ok 17 rfl)))
  (e_Lok (sm_iaload (x_dk dn_380_0_0_ok 18 rfl))))
  (e_Tok2
  (e_Lok (e_st (I := eI) (er_icmpge (off := 57) (tg := 90) (x_dk dn_380_0_0_ok 19 rfl) (by decide)) nx_if2))
  (e_Lok (ld_iload_n_3 (x_dk dn_380_0_0_ok 20 rfl)))))
  (e_Tok2
  (e_Tok2
  (e_Lok (e_st (I := eI) (er_ifeq (off := 53) (tg := 90) (x_dk dn_380_0_0_ok 21 rfl) (by decide)) nx_if1))
  (e_Lok (ld_aload_n_0 (x_dk dn_380_0_0_ok 22 rfl))))
  (e_Tok2
  (e_Lok (lk_12_222g ho_380 (x_dk dn_380_0_0_ok 23 rfl)))
  (e_Lok (ld_iload_4 (x_dk dn_380_0_0_ok 24 rfl))))))
  (e_Tok2
  (e_Tok2
  (e_Tok2
  (e_Lok (sm_iaload (x_dk dn_380_0_1_ok 0 rfl)))
  (e_Lok (e_st (I := eI) (er_i2l (x_dk dn_380_0_1_ok 1 rfl)) (nx_un (fun _ => rfl)))))
  (e_Tok2
  (e_Lok (ld_aload_n_0 (x_dk dn_380_0_1_ok 2 rfl)))
  (e_Lok (lk_12_49g ho_380 (x_dk dn_380_0_1_ok 3 rfl)))))
  (e_Tok2
  (e_Tok2
  (e_Lok (ps_bipush_6 (x_dk dn_380_0_1_ok 4 rfl)))
  (e_Lok (ld_aload_n_0 (x_dk dn_380_0_1_ok 5 rfl))))
  (e_Tok2
  (e_Lok (lk_12_663g ho_380 (x_dk dn_380_0_1_ok 6 rfl)))
  (e_Tok2
  (e_Lok (sm_imul (x_dk dn_380_0_1_ok 7 rfl)))
  (e_Lok (ld_iload_4 (x_dk dn_380_0_1_ok 8 rfl)))))))))
def te_380_34 : Nat → eE := (e_T 87 (e_T 71 (e_T 64 (e_T 62 (e_T 61 (e_L 61 (0, ei_bin eF_add 62, 0, 0)) (e_L 62 (0, ei_ald elay false 63, 0, 0))) (e_T 63 (e_L 63 (0, ei_un (fun x => (4, x)) 64, 0, 0)) (e_L 64 (0, ei_load 0 2 65, 0, 0)))) (e_T 68 (e_T 65 (e_L 65 (0, ei_getf eft elay 12 18 68, 0, 0)) (e_L 68 (0, ei_push (0, 6) 70, 0, 0))) (e_T 70 (e_L 70 (0, ei_load 0 2 71, 0, 0)) (e_L 71 (0, ei_getf eft elay 12 98 74, 0, 0))))) (e_T 78 (e_T 75 (e_T 74 (e_L 74 (0, ei_bin eF_mul 75, 0, 0)) (e_L 75 (0, ei_load 4 0 77, 0, 0))) (e_T 77 (e_L 77 (0, ei_bin eF_add 78, 0, 0)) (e_L 78 (0, ei_ald elay false 79, 0, 0)))) (e_T 80 (e_T 79 (e_L 79 (0, ei_un (fun x => (4, x)) 80, 0, 0)) (e_L 80 (2, e_nof, 266, 3))) (e_T 83 (e_L 83 (0, ei_stor 3 0 84, 0, 0)) (e_T 84 (e_L 84 (0, ei_inc 4 1 87, 0, 0)) (e_L 87 (0, ei_goto 22, 0, 0))))))) (e_T 104 (e_T 97 (e_T 91 (e_T 90 (e_L 90 (0, ei_load 0 2 91, 0, 0)) (e_L 91 (0, ei_getf eft elay 12 98 94, 0, 0))) (e_T 94 (e_L 94 (2, e_nof, 268, 1)) (e_L 97 (0, ei_stor 4 0 99, 0, 0)))) (e_T 100 (e_T 99 (e_L 99 (0, ei_load 3 0 100, 0, 0)) (e_L 100 (0, ei_if1 1 107 103, 0, 0))) (e_T 103 (e_L 103 (0, ei_push (0, 3) 104, 0, 0)) (e_L 104 (0, ei_goto 137, 0, 0))))) (e_T 113 (e_T 108 (e_T 107 (e_L 107 (0, ei_load 0 2 108, 0, 0)) (e_L 108 (0, ei_getf eft elay 12 0 111, 0, 0))) (e_T 111 (e_L 111 (0, ei_load 4 0 113, 0, 0)) (e_L 113 (0, ei_push (0, 0) 114, 0, 0)))) (e_T 115 (e_T 114 (e_L 114 (0, ei_bin eF_add 115, 0, 0)) (e_L 115 (0, ei_ald elay false 116, 0, 0))) (e_T 116 (e_L 116 (0, ei_if1 0 123 119, 0, 0)) (e_T 119 (e_L 119 (0, ei_push (0, 4) 120, 0, 0)) (e_L 120 (0, ei_goto 137, 0, 0))))))))
set_option maxRecDepth 20000 in
set_option maxHeartbeats 4000000 in
theorem te_380_34_ok : ∀ pc, e_EOq eft cls elay eI n_380 pc (te_380_34 pc) :=
  (e_Tok2
  (e_Tok2
  (e_Tok2
  (e_Tok2
  (e_Tok2
  (e_Lok (sm_iadd (x_dk dn_380_0_1_ok 9 rfl)))
  (e_Lok (sm_iaload (x_dk dn_380_0_1_ok 10 rfl))))
  (e_Tok2
  (e_Lok (e_st (I := eI) (er_i2l (x_dk dn_380_0_1_ok 11 rfl)) (nx_un (fun _ => rfl))))
  (e_Lok (ld_aload_n_0 (x_dk dn_380_0_1_ok 12 rfl)))))
  (e_Tok2
  (e_Tok2
  (e_Lok (lk_12_52g ho_380 (x_dk dn_380_0_1_ok 13 rfl)))
  (e_Lok (ps_bipush_6 (x_dk dn_380_0_1_ok 14 rfl))))
  (e_Tok2
  (e_Lok (ld_aload_n_0 (x_dk dn_380_0_1_ok 15 rfl)))
  (e_Lok (lk_12_663g ho_380 (x_dk dn_380_0_1_ok 16 rfl))))))
  (e_Tok2
  (e_Tok2
  (e_Tok2
  (e_Lok (sm_imul (x_dk dn_380_0_1_ok 17 rfl)))
  (e_Lok (ld_iload_4 (x_dk dn_380_0_1_ok 18 rfl))))
  (e_Tok2
  (e_Lok (sm_iadd (x_dk dn_380_0_1_ok 19 rfl)))
  (e_Lok (sm_iaload (x_dk dn_380_0_1_ok 20 rfl)))))
  (e_Tok2
  (e_Tok2
  (e_Lok (e_st (I := eI) (er_i2l (x_dk dn_380_0_1_ok 21 rfl)) (nx_un (fun _ => rfl))))
  (e_Lok (lk_12_301 ho_380 (x_dk dn_380_0_1_ok 22 rfl))))
  (e_Tok2
  (e_Lok (e_st (I := eI) (er_istore_n (i := 3) (x_dk dn_380_0_1_ok 23 rfl) (by decide +kernel)) nx_stor))
  (e_Tok2
  (e_Lok (e_st (I := eI) (er_iinc (i := 4) (n := 1) (x_dk dn_380_0_1_ok 24 rfl) (by decide +kernel) (by decide)) nx_inc))
  (e_Lok (e_st (I := eI) (er_goto (off := (-65)) (tg := 22) (x_dk dn_380_0_2_ok 0 rfl) (by decide)) nx_goto)))))))
  (e_Tok2
  (e_Tok2
  (e_Tok2
  (e_Tok2
  (e_Lok (ld_aload_n_0 (x_dk dn_380_0_2_ok 1 rfl)))
  (e_Lok (lk_12_663g ho_380 (x_dk dn_380_0_2_ok 2 rfl))))
  (e_Tok2
  (e_Lok (lk_12_294 ho_380 (x_dk dn_380_0_2_ok 3 rfl)))
  (e_Lok (e_st (I := eI) (er_istore (i := 4) (x_dk dn_380_0_2_ok 4 rfl) (by decide +kernel)) nx_stor))))
  (e_Tok2
  (e_Tok2
  (e_Lok (ld_iload_n_3 (x_dk dn_380_0_2_ok 5 rfl)))
  (e_Lok (e_st (I := eI) (er_ifne (off := 7) (tg := 107) (x_dk dn_380_0_2_ok 6 rfl) (by decide)) nx_if1)))
  (e_Tok2
  (e_Lok (ps_iconst_3 (x_dk dn_380_0_2_ok 7 rfl)))
  (e_Lok (e_st (I := eI) (er_goto (off := 33) (tg := 137) (x_dk dn_380_0_2_ok 8 rfl) (by decide)) nx_goto)))))
  (e_Tok2
  (e_Tok2
  (e_Tok2
  (e_Lok (ld_aload_n_0 (x_dk dn_380_0_2_ok 9 rfl)))
  (e_Lok (lk_12_8g ho_380 (x_dk dn_380_0_2_ok 10 rfl))))
  (e_Tok2
  (e_Lok (ld_iload_4 (x_dk dn_380_0_2_ok 11 rfl)))
  (e_Lok (ps_iconst_0 (x_dk dn_380_0_2_ok 12 rfl)))))
  (e_Tok2
  (e_Tok2
  (e_Lok (sm_iadd (x_dk dn_380_0_2_ok 13 rfl)))
  (e_Lok (sm_iaload (x_dk dn_380_0_2_ok 14 rfl))))
  (e_Tok2
  (e_Lok (e_st (I := eI) (er_ifeq (off := 7) (tg := 123) (x_dk dn_380_0_2_ok 15 rfl) (by decide)) nx_if1))
  (e_Tok2
  (e_Lok (ps_iconst_4 (x_dk dn_380_0_2_ok 16 rfl)))
  (e_Lok (e_st (I := eI) (er_goto (off := 17) (tg := 137) (x_dk dn_380_0_2_ok 17 rfl) (by decide)) nx_goto))))))))
def te_380_68 : Nat → eE := (e_T 152 (e_T 136 (e_T 128 (e_T 124 (e_T 123 (e_L 123 (0, ei_load 0 2 124, 0, 0)) (e_L 124 (0, ei_getf eft elay 12 0 127, 0, 0))) (e_T 127 (e_L 127 (0, ei_push (0, 1) 128, 0, 0)) (e_L 128 (0, ei_ald elay false 129, 0, 0)))) (e_T 132 (e_T 129 (e_L 129 (0, ei_if1 1 136 132, 0, 0)) (e_L 132 (0, ei_push (0, 5) 133, 0, 0))) (e_T 133 (e_L 133 (0, ei_goto 137, 0, 0)) (e_L 136 (0, ei_push (0, 0) 137, 0, 0))))) (e_T 144 (e_T 139 (e_T 137 (e_L 137 (0, ei_stor 5 0 139, 0, 0)) (e_L 139 (0, ei_load 5 0 141, 0, 0))) (e_T 141 (e_L 141 (0, ei_if1 0 151 144, 0, 0)) (e_L 144 (0, ei_load 0 2 145, 0, 0)))) (e_T 147 (e_T 145 (e_L 145 (0, ei_load 5 0 147, 0, 0)) (e_L 147 (2, e_nof, 369, 2))) (e_T 150 (e_L 150 (1, e_nof, 0, 0)) (e_T 151 (e_L 151 (0, ei_push (0, 0) 152, 0, 0)) (e_L 152 (0, ei_stor 6 0 154, 0, 0))))))) (e_T 168 (e_T 160 (e_T 156 (e_T 154 (e_L 154 (0, ei_load 6 0 156, 0, 0)) (e_L 156 (0, ei_load 1 0 157, 0, 0))) (e_T 157 (e_L 157 (0, ei_if2 3 186 160, 0, 0)) (e_L 160 (0, ei_load 0 2 161, 0, 0)))) (e_T 164 (e_T 161 (e_L 161 (0, ei_getf eft elay 12 0 164, 0, 0)) (e_L 164 (0, ei_load 4 0 166, 0, 0))) (e_T 166 (e_L 166 (0, ei_push (0, 28) 168, 0, 0)) (e_L 168 (0, ei_bin eF_add 169, 0, 0))))) (e_T 173 (e_T 171 (e_T 169 (e_L 169 (0, ei_load 6 0 171, 0, 0)) (e_L 171 (0, ei_bin eF_add 172, 0, 0))) (e_T 172 (e_L 172 (0, ei_load 0 2 173, 0, 0)) (e_L 173 (0, ei_getf eft elay 12 101 176, 0, 0)))) (e_T 178 (e_T 176 (e_L 176 (0, ei_load 6 0 178, 0, 0)) (e_L 178 (0, ei_ald elay false 179, 0, 0))) (e_T 179 (e_L 179 (0, ei_ast elay false 180, 0, 0)) (e_T 180 (e_L 180 (0, ei_inc 6 1 183, 0, 0)) (e_L 183 (0, ei_goto 154, 0, 0))))))))
set_option maxRecDepth 20000 in
set_option maxHeartbeats 4000000 in
theorem te_380_68_ok : ∀ pc, e_EOq eft cls elay eI n_380 pc (te_380_68 pc) :=
  (e_Tok2
  (e_Tok2
  (e_Tok2
  (e_Tok2
  (e_Tok2
  (e_Lok (ld_aload_n_0 (x_dk dn_380_0_2_ok 18 rfl)))
  (e_Lok (lk_12_8g ho_380 (x_dk dn_380_0_2_ok 19 rfl))))
  (e_Tok2
  (e_Lok (ps_iconst_1 (x_dk dn_380_0_2_ok 20 rfl)))
  (e_Lok (sm_iaload (x_dk dn_380_0_2_ok 21 rfl)))))
  (e_Tok2
  (e_Tok2
  (e_Lok (e_st (I := eI) (er_ifne (off := 7) (tg := 136) (x_dk dn_380_0_2_ok 22 rfl) (by decide)) nx_if1))
  (e_Lok (ps_iconst_5 (x_dk dn_380_0_2_ok 23 rfl))))
  (e_Tok2
  (e_Lok (e_st (I := eI) (er_goto (off := 4) (tg := 137) (x_dk dn_380_0_2_ok 24 rfl) (by decide)) nx_goto))
  (e_Lok (ps_iconst_0 (x_dk dn_380_0_3_ok 0 rfl))))))
  (e_Tok2
  (e_Tok2
  (e_Tok2
  (e_Lok (e_st (I := eI) (er_istore (i := 5) (x_dk dn_380_0_3_ok 1 rfl) (by decide +kernel)) nx_stor))
  (e_Lok (ld_iload_5 (x_dk dn_380_0_3_ok 2 rfl))))
  (e_Tok2
  (e_Lok (e_st (I := eI) (er_ifeq (off := 10) (tg := 151) (x_dk dn_380_0_3_ok 3 rfl) (by decide)) nx_if1))
  (e_Lok (ld_aload_n_0 (x_dk dn_380_0_3_ok 4 rfl)))))
  (e_Tok2
  (e_Tok2
  (e_Lok (ld_iload_5 (x_dk dn_380_0_3_ok 5 rfl)))
  (e_Lok (lk_12_672 ho_380 (x_dk dn_380_0_3_ok 6 rfl))))
  (e_Tok2
  (e_Lok (e_rt (I := eI) (k := 0) ⟨(x_dk dn_380_0_3_ok 7 rfl), rfl⟩))
  (e_Tok2
  (e_Lok (ps_iconst_0 (x_dk dn_380_0_3_ok 8 rfl)))
  (e_Lok (e_st (I := eI) (er_istore (i := 6) (x_dk dn_380_0_3_ok 9 rfl) (by decide +kernel)) nx_stor)))))))
  (e_Tok2
  (e_Tok2
  (e_Tok2
  (e_Tok2
  (e_Lok (ld_iload_6 (x_dk dn_380_0_3_ok 10 rfl)))
  (e_Lok (ld_iload_n_1 (x_dk dn_380_0_3_ok 11 rfl))))
  (e_Tok2
  (e_Lok (e_st (I := eI) (er_icmpge (off := 29) (tg := 186) (x_dk dn_380_0_3_ok 12 rfl) (by decide)) nx_if2))
  (e_Lok (ld_aload_n_0 (x_dk dn_380_0_3_ok 13 rfl)))))
  (e_Tok2
  (e_Tok2
  (e_Lok (lk_12_8g ho_380 (x_dk dn_380_0_3_ok 14 rfl)))
  (e_Lok (ld_iload_4 (x_dk dn_380_0_3_ok 15 rfl))))
  (e_Tok2
  (e_Lok (ps_bipush_28 (x_dk dn_380_0_3_ok 16 rfl)))
  (e_Lok (sm_iadd (x_dk dn_380_0_3_ok 17 rfl))))))
  (e_Tok2
  (e_Tok2
  (e_Tok2
  (e_Lok (ld_iload_6 (x_dk dn_380_0_3_ok 18 rfl)))
  (e_Lok (sm_iadd (x_dk dn_380_0_3_ok 19 rfl))))
  (e_Tok2
  (e_Lok (ld_aload_n_0 (x_dk dn_380_0_3_ok 20 rfl)))
  (e_Lok (lk_12_222g ho_380 (x_dk dn_380_0_3_ok 21 rfl)))))
  (e_Tok2
  (e_Tok2
  (e_Lok (ld_iload_6 (x_dk dn_380_0_3_ok 22 rfl)))
  (e_Lok (sm_iaload (x_dk dn_380_0_3_ok 23 rfl))))
  (e_Tok2
  (e_Lok (sm_iastore (x_dk dn_380_0_3_ok 24 rfl)))
  (e_Tok2
  (e_Lok (e_st (I := eI) (er_iinc (i := 6) (n := 1) (x_dk dn_380_1_0_ok 0 rfl) (by decide +kernel) (by decide)) nx_inc))
  (e_Lok (e_st (I := eI) (er_goto (off := (-29)) (tg := 154) (x_dk dn_380_1_0_ok 1 rfl) (by decide)) nx_goto))))))))
def te_380_102 : Nat → eE := (e_T 216 (e_T 200 (e_T 191 (e_T 187 (e_T 186 (e_L 186 (0, ei_load 0 2 187, 0, 0)) (e_L 187 (0, ei_load 0 2 188, 0, 0))) (e_T 188 (e_L 188 (0, ei_getf eft elay 12 98 191, 0, 0)) (e_L 191 (2, e_nof, 381, 2)))) (e_T 195 (e_T 194 (e_L 194 (0, ei_load 0 2 195, 0, 0)) (e_L 195 (0, ei_getf eft elay 12 0 198, 0, 0))) (e_T 198 (e_L 198 (0, ei_load 4 0 200, 0, 0)) (e_L 200 (0, ei_push (0, 9) 202, 0, 0))))) (e_T 207 (e_T 203 (e_T 202 (e_L 202 (0, ei_bin eF_add 203, 0, 0)) (e_L 203 (0, ei_load 0 2 204, 0, 0))) (e_T 204 (e_L 204 (0, ei_getf eft elay 12 96 207, 0, 0)) (e_L 207 (0, ei_ast elay false 208, 0, 0)))) (e_T 209 (e_T 208 (e_L 208 (0, ei_load 0 2 209, 0, 0)) (e_L 209 (0, ei_getf eft elay 12 0 212, 0, 0))) (e_T 212 (e_L 212 (0, ei_load 0 2 213, 0, 0)) (e_T 213 (e_L 213 (0, ei_getf eft elay 12 97 216, 0, 0)) (e_L 216 (0, ei_push (0, 2) 217, 0, 0))))))) (e_T 230 (e_T 222 (e_T 218 (e_T 217 (e_L 217 (0, ei_ast elay false 218, 0, 0)) (e_L 218 (0, ei_load 0 2 219, 0, 0))) (e_T 219 (e_L 219 (0, ei_getf eft elay 12 0 222, 0, 0)) (e_L 222 (0, ei_load 0 2 223, 0, 0)))) (e_T 226 (e_T 223 (e_L 223 (0, ei_getf eft elay 12 97 226, 0, 0)) (e_L 226 (0, ei_push (0, 7) 228, 0, 0))) (e_T 228 (e_L 228 (0, ei_bin eF_add 229, 0, 0)) (e_T 229 (e_L 229 (0, ei_push (0, 0) 230, 0, 0)) (e_L 230 (0, ei_ast elay false 231, 0, 0)))))) (e_T 236 (e_T 232 (e_T 231 (e_L 231 (0, ei_load 0 2 232, 0, 0)) (e_L 232 (0, ei_push (0, 1) 233, 0, 0))) (e_T 233 (e_L 233 (0, ei_putf eft elay 12 100 1 236, 0, 0)) (e_L 236 (0, ei_load 0 2 237, 0, 0)))) (e_T 238 (e_T 237 (e_L 237 (0, ei_load 2 0 238, 0, 0)) (e_L 238 (0, ei_push (0, 1) 239, 0, 0))) (e_T 239 (e_L 239 (0, ei_bin eF_add 240, 0, 0)) (e_T 240 (e_L 240 (2, e_nof, 365, 2)) (e_L 243 (1, e_nof, 0, 0))))))))
set_option maxRecDepth 20000 in
set_option maxHeartbeats 4000000 in
theorem te_380_102_ok : ∀ pc, e_EOq eft cls elay eI n_380 pc (te_380_102 pc) :=
  (e_Tok2
  (e_Tok2
  (e_Tok2
  (e_Tok2
  (e_Tok2
  (e_Lok (ld_aload_n_0 (x_dk dn_380_1_0_ok 2 rfl)))
  (e_Lok (ld_aload_n_0 (x_dk dn_380_1_0_ok 3 rfl))))
  (e_Tok2
  (e_Lok (lk_12_663g ho_380 (x_dk dn_380_1_0_ok 4 rfl)))
  (e_Lok (lk_12_744 ho_380 (x_dk dn_380_1_0_ok 5 rfl)))))
  (e_Tok2
  (e_Tok2
  (e_Lok (ld_aload_n_0 (x_dk dn_380_1_0_ok 6 rfl)))
  (e_Lok (lk_12_8g ho_380 (x_dk dn_380_1_0_ok 7 rfl))))
  (e_Tok2
  (e_Lok (ld_iload_4 (x_dk dn_380_1_0_ok 8 rfl)))
  (e_Lok (ps_bipush_9 (x_dk dn_380_1_0_ok 9 rfl))))))
  (e_Tok2
  (e_Tok2
  (e_Tok2
  (e_Lok (sm_iadd (x_dk dn_380_1_0_ok 10 rfl)))
  (e_Lok (ld_aload_n_0 (x_dk dn_380_1_0_ok 11 rfl))))
  (e_Tok2
  (e_Lok (lk_12_660g ho_380 (x_dk dn_380_1_0_ok 12 rfl)))
  (e_Lok (sm_iastore (x_dk dn_380_1_0_ok 13 rfl)))))
  (e_Tok2
  (e_Tok2
  (e_Lok (ld_aload_n_0 (x_dk dn_380_1_0_ok 14 rfl)))
  (e_Lok (lk_12_8g ho_380 (x_dk dn_380_1_0_ok 15 rfl))))
  (e_Tok2
  (e_Lok (ld_aload_n_0 (x_dk dn_380_1_0_ok 16 rfl)))
  (e_Tok2
  (e_Lok (lk_12_651g ho_380 (x_dk dn_380_1_0_ok 17 rfl)))
  (e_Lok (ps_iconst_2 (x_dk dn_380_1_0_ok 18 rfl))))))))
  (e_Tok2
  (e_Tok2
  (e_Tok2
  (e_Tok2
  (e_Lok (sm_iastore (x_dk dn_380_1_0_ok 19 rfl)))
  (e_Lok (ld_aload_n_0 (x_dk dn_380_1_0_ok 20 rfl))))
  (e_Tok2
  (e_Lok (lk_12_8g ho_380 (x_dk dn_380_1_0_ok 21 rfl)))
  (e_Lok (ld_aload_n_0 (x_dk dn_380_1_0_ok 22 rfl)))))
  (e_Tok2
  (e_Tok2
  (e_Lok (lk_12_651g ho_380 (x_dk dn_380_1_0_ok 23 rfl)))
  (e_Lok (ps_bipush_7 (x_dk dn_380_1_0_ok 24 rfl))))
  (e_Tok2
  (e_Lok (sm_iadd (x_dk dn_380_1_1_ok 0 rfl)))
  (e_Tok2
  (e_Lok (ps_iconst_0 (x_dk dn_380_1_1_ok 1 rfl)))
  (e_Lok (sm_iastore (x_dk dn_380_1_1_ok 2 rfl)))))))
  (e_Tok2
  (e_Tok2
  (e_Tok2
  (e_Lok (ld_aload_n_0 (x_dk dn_380_1_1_ok 3 rfl)))
  (e_Lok (ps_iconst_1 (x_dk dn_380_1_1_ok 4 rfl))))
  (e_Tok2
  (e_Lok (lk_12_669p ho_380 (x_dk dn_380_1_1_ok 5 rfl)))
  (e_Lok (ld_aload_n_0 (x_dk dn_380_1_1_ok 6 rfl)))))
  (e_Tok2
  (e_Tok2
  (e_Lok (ld_iload_n_2 (x_dk dn_380_1_1_ok 7 rfl)))
  (e_Lok (ps_iconst_1 (x_dk dn_380_1_1_ok 8 rfl))))
  (e_Tok2
  (e_Lok (sm_iadd (x_dk dn_380_1_1_ok 9 rfl)))
  (e_Tok2
  (e_Lok (lk_12_678 ho_380 (x_dk dn_380_1_1_ok 10 rfl)))
  (e_Lok (e_rt (I := eI) (k := 0) ⟨(x_dk dn_380_1_1_ok 11 rfl), rfl⟩))))))))
def te_380 : Nat → eE := (e_T 120 (e_T 59 te_380_0 te_380_34) (e_T 183 te_380_68 te_380_102))
theorem te_380_ok : ∀ pc, e_EOq eft cls elay eI n_380 pc (te_380 pc) := (e_Tok2 ((e_Tok2 (te_380_0_ok) (te_380_34_ok))) ((e_Tok2 (te_380_68_ok) (te_380_102_ok))))
theorem ho_381 : (xm_y n_381).cls = "RobotCellHouseModel" := rfl
def dn_381_0_0 : List (Nat × Instr × Nat) := [(0, .iload_n 1, 1), (1, .invokestatic 294, 3), (4, .istore_n 2, 1), (5, .aload_n 0, 1), (6, .getfield 8, 3), (9, .iload_n 2, 1), (10, .iconst 0, 1), (11, .iadd, 1), (12, .iconst 1, 1), (13, .iastore, 1), (14, .aload_n 0, 1), (15, .getfield 8, 3), (18, .iload_n 2, 1), (19, .bipush 8, 2), (21, .iadd, 1), (22, .iconst 0, 1), (23, .iastore, 1), (24, .aload_n 0, 1), (25, .getfield 8, 3), (28, .iload_n 2, 1), (29, .bipush 9, 2), (31, .iadd, 1), (32, .iconst (-1), 1), (33, .iastore, 1), (34, .iconst 0, 1)]
set_option maxRecDepth 20000 in
theorem dn_381_0_0_ok : dn_381_0_0.all (fun q => decide (decode (xm_b n_381) q.1 = .ok (q.2.1, q.2.2))) = true := xa_g_ok (by decide +kernel)
def dn_381_0_1 : List (Nat × Instr × Nat) := [(35, .istore_n 3, 1), (36, .iconst 0, 1), (37, .istore 4, 2), (39, .iload 4, 2), (41, .aload_n 0, 1), (42, .getfield 43, 3), (45, .iload_n 1, 1), (46, .iaload, 1), (47, .if_icmp .ge 91, 3), (50, .aload_n 0, 1), (51, .getfield 8, 3), (54, .iload_n 2, 1), (55, .bipush 28, 2), (57, .iadd, 1), (58, .iload 4, 2), (60, .iadd, 1), (61, .iaload, 1), (62, .aload_n 0, 1), (63, .getfield 8, 3), (66, .iload_n 2, 1), (67, .bipush 16, 2), (69, .iadd, 1), (70, .iload 4, 2), (72, .iadd, 1), (73, .iaload, 1)]
set_option maxRecDepth 20000 in
theorem dn_381_0_1_ok : dn_381_0_1.all (fun q => decide (decode (xm_b n_381) q.1 = .ok (q.2.1, q.2.2))) = true := xa_g_ok (by decide +kernel)
def dn_381_0_2 : List (Nat × Instr × Nat) := [(74, .isub, 1), (75, .istore 5, 2), (77, .iload 5, 2), (79, .ifCond .ge 9, 3), (82, .iload 5, 2), (84, .ineg, 1), (85, .goto 5, 3), (88, .iload 5, 2), (90, .aload_n 0, 1), (91, .getfield 55, 3), (94, .bipush 6, 2), (96, .iload_n 1, 1), (97, .imul, 1), (98, .iload 4, 2), (100, .iadd, 1), (101, .iaload, 1), (102, .aload_n 0, 1), (103, .getfield 58, 3), (106, .bipush 6, 2), (108, .iload_n 1, 1), (109, .imul, 1), (110, .iload 4, 2), (112, .iadd, 1), (113, .iaload, 1), (114, .invokestatic 747, 3)]
set_option maxRecDepth 20000 in
theorem dn_381_0_2_ok : dn_381_0_2.all (fun q => decide (decode (xm_b n_381) q.1 = .ok (q.2.1, q.2.2))) = true := xa_g_ok (by decide +kernel)
def dn_381_0_3 : List (Nat × Instr × Nat) := [(117, .istore 6, 2), (119, .iload 6, 2), (121, .iload_n 3, 1), (122, .if_icmp .le 8, 3), (125, .iload 6, 2), (127, .goto 4, 3), (130, .iload_n 3, 1), (131, .istore_n 3, 1), (132, .iinc 4 1, 3), (135, .goto (-96), 3), (138, .aload_n 0, 1), (139, .getfield 8, 3), (142, .iload_n 2, 1), (143, .bipush 11, 2), (145, .iadd, 1), (146, .iload_n 3, 1), (147, .iastore, 1), (148, .return_, 1)]
set_option maxRecDepth 20000 in
theorem dn_381_0_3_ok : dn_381_0_3.all (fun q => decide (decode (xm_b n_381) q.1 = .ok (q.2.1, q.2.2))) = true := xa_g_ok (by decide +kernel)
def te_381_0 : Nat → eE := (e_T 14 (e_T 6 (e_T 1 (e_T 0 (e_L 0 (0, ei_load 1 0 1, 0, 0)) (e_L 1 (2, e_nof, 268, 1))) (e_T 4 (e_L 4 (0, ei_stor 2 0 5, 0, 0)) (e_T 5 (e_L 5 (0, ei_load 0 2 6, 0, 0)) (e_L 6 (0, ei_getf eft elay 12 0 9, 0, 0))))) (e_T 11 (e_T 9 (e_L 9 (0, ei_load 2 0 10, 0, 0)) (e_T 10 (e_L 10 (0, ei_push (0, 0) 11, 0, 0)) (e_L 11 (0, ei_bin eF_add 12, 0, 0)))) (e_T 12 (e_L 12 (0, ei_push (0, 1) 13, 0, 0)) (e_T 13 (e_L 13 (0, ei_ast elay false 14, 0, 0)) (e_L 14 (0, ei_load 0 2 15, 0, 0)))))) (e_T 23 (e_T 19 (e_T 15 (e_L 15 (0, ei_getf eft elay 12 0 18, 0, 0)) (e_T 18 (e_L 18 (0, ei_load 2 0 19, 0, 0)) (e_L 19 (0, ei_push (0, 8) 21, 0, 0)))) (e_T 21 (e_L 21 (0, ei_bin eF_add 22, 0, 0)) (e_T 22 (e_L 22 (0, ei_push (0, 0) 23, 0, 0)) (e_L 23 (0, ei_ast elay false 24, 0, 0))))) (e_T 28 (e_T 24 (e_L 24 (0, ei_load 0 2 25, 0, 0)) (e_T 25 (e_L 25 (0, ei_getf eft elay 12 0 28, 0, 0)) (e_L 28 (0, ei_load 2 0 29, 0, 0)))) (e_T 29 (e_L 29 (0, ei_push (0, 9) 31, 0, 0)) (e_T 31 (e_L 31 (0, ei_bin eF_add 32, 0, 0)) (e_L 32 (0, ei_push (0, (-1)) 33, 0, 0)))))))
set_option maxRecDepth 20000 in
set_option maxHeartbeats 4000000 in
theorem te_381_0_ok : ∀ pc, e_EOq eft cls elay eI n_381 pc (te_381_0 pc) :=
  (e_Tok2
  (e_Tok2
  (e_Tok2
  (e_Tok2
  (e_Lok (ld_iload_n_1 (x_dk dn_381_0_0_ok 0 rfl)))
  (e_Lok (lk_12_294 ho_381 (x_dk dn_381_0_0_ok 1 rfl))))
  (e_Tok2
  (e_Lok (e_st (I := eI) (er_istore_n (i := 2) (x_dk dn_381_0_0_ok 2 rfl) (by decide +kernel)) nx_stor))
  (e_Tok2
  (e_Lok (ld_aload_n_0 (x_dk dn_381_0_0_ok 3 rfl)))
  (e_Lok (lk_12_8g ho_381 (x_dk dn_381_0_0_ok 4 rfl))))))
  (e_Tok2
  (e_Tok2
  (e_Lok (ld_iload_n_2 (x_dk dn_381_0_0_ok 5 rfl)))
  (e_Tok2
  (e_Lok (ps_iconst_0 (x_dk dn_381_0_0_ok 6 rfl)))
  (e_Lok (sm_iadd (x_dk dn_381_0_0_ok 7 rfl)))))
  (e_Tok2
  (e_Lok (ps_iconst_1 (x_dk dn_381_0_0_ok 8 rfl)))
  (e_Tok2
  (e_Lok (sm_iastore (x_dk dn_381_0_0_ok 9 rfl)))
  (e_Lok (ld_aload_n_0 (x_dk dn_381_0_0_ok 10 rfl)))))))
  (e_Tok2
  (e_Tok2
  (e_Tok2
  (e_Lok (lk_12_8g ho_381 (x_dk dn_381_0_0_ok 11 rfl)))
  (e_Tok2
  (e_Lok (ld_iload_n_2 (x_dk dn_381_0_0_ok 12 rfl)))
  (e_Lok (ps_bipush_8 (x_dk dn_381_0_0_ok 13 rfl)))))
  (e_Tok2
  (e_Lok (sm_iadd (x_dk dn_381_0_0_ok 14 rfl)))
  (e_Tok2
  (e_Lok (ps_iconst_0 (x_dk dn_381_0_0_ok 15 rfl)))
  (e_Lok (sm_iastore (x_dk dn_381_0_0_ok 16 rfl))))))
  (e_Tok2
  (e_Tok2
  (e_Lok (ld_aload_n_0 (x_dk dn_381_0_0_ok 17 rfl)))
  (e_Tok2
  (e_Lok (lk_12_8g ho_381 (x_dk dn_381_0_0_ok 18 rfl)))
  (e_Lok (ld_iload_n_2 (x_dk dn_381_0_0_ok 19 rfl)))))
  (e_Tok2
  (e_Lok (ps_bipush_9 (x_dk dn_381_0_0_ok 20 rfl)))
  (e_Tok2
  (e_Lok (sm_iadd (x_dk dn_381_0_0_ok 21 rfl)))
  (e_Lok (ps_iconst_m1 (x_dk dn_381_0_0_ok 22 rfl))))))))
def te_381_23 : Nat → eE := (e_T 47 (e_T 37 (e_T 34 (e_T 33 (e_L 33 (0, ei_ast elay false 34, 0, 0)) (e_L 34 (0, ei_push (0, 0) 35, 0, 0))) (e_T 35 (e_L 35 (0, ei_stor 3 0 36, 0, 0)) (e_T 36 (e_L 36 (0, ei_push (0, 0) 37, 0, 0)) (e_L 37 (0, ei_stor 4 0 39, 0, 0))))) (e_T 42 (e_T 39 (e_L 39 (0, ei_load 4 0 41, 0, 0)) (e_T 41 (e_L 41 (0, ei_load 0 2 42, 0, 0)) (e_L 42 (0, ei_getf eft elay 12 15 45, 0, 0)))) (e_T 45 (e_L 45 (0, ei_load 1 0 46, 0, 0)) (e_T 46 (e_L 46 (0, ei_ald elay false 47, 0, 0)) (e_L 47 (0, ei_if2 3 138 50, 0, 0)))))) (e_T 58 (e_T 54 (e_T 50 (e_L 50 (0, ei_load 0 2 51, 0, 0)) (e_T 51 (e_L 51 (0, ei_getf eft elay 12 0 54, 0, 0)) (e_L 54 (0, ei_load 2 0 55, 0, 0)))) (e_T 55 (e_L 55 (0, ei_push (0, 28) 57, 0, 0)) (e_T 57 (e_L 57 (0, ei_bin eF_add 58, 0, 0)) (e_L 58 (0, ei_load 4 0 60, 0, 0))))) (e_T 62 (e_T 60 (e_L 60 (0, ei_bin eF_add 61, 0, 0)) (e_T 61 (e_L 61 (0, ei_ald elay false 62, 0, 0)) (e_L 62 (0, ei_load 0 2 63, 0, 0)))) (e_T 63 (e_L 63 (0, ei_getf eft elay 12 0 66, 0, 0)) (e_T 66 (e_L 66 (0, ei_load 2 0 67, 0, 0)) (e_L 67 (0, ei_push (0, 16) 69, 0, 0)))))))
set_option maxRecDepth 20000 in
set_option maxHeartbeats 4000000 in
theorem te_381_23_ok : ∀ pc, e_EOq eft cls elay eI n_381 pc (te_381_23 pc) :=
  (e_Tok2
  (e_Tok2
  (e_Tok2
  (e_Tok2
  (e_Lok (sm_iastore (x_dk dn_381_0_0_ok 23 rfl)))
  (e_Lok (ps_iconst_0 (x_dk dn_381_0_0_ok 24 rfl))))
  (e_Tok2
  (e_Lok (e_st (I := eI) (er_istore_n (i := 3) (x_dk dn_381_0_1_ok 0 rfl) (by decide +kernel)) nx_stor))
  (e_Tok2
  (e_Lok (ps_iconst_0 (x_dk dn_381_0_1_ok 1 rfl)))
  (e_Lok (e_st (I := eI) (er_istore (i := 4) (x_dk dn_381_0_1_ok 2 rfl) (by decide +kernel)) nx_stor)))))
  (e_Tok2
  (e_Tok2
  (e_Lok (ld_iload_4 (x_dk dn_381_0_1_ok 3 rfl)))
  (e_Tok2
  (e_Lok (ld_aload_n_0 (x_dk dn_381_0_1_ok 4 rfl)))
  (e_Lok (lk_12_43g ho_381 (x_dk dn_381_0_1_ok 5 rfl)))))
  (e_Tok2
  (e_Lok (ld_iload_n_1 (x_dk dn_381_0_1_ok 6 rfl)))
  (e_Tok2
  (e_Lok (sm_iaload (x_dk dn_381_0_1_ok 7 rfl)))
  (e_Lok (e_st (I := eI) (er_icmpge (off := 91) (tg := 138) (x_dk dn_381_0_1_ok 8 rfl) (by decide)) nx_if2))))))
  (e_Tok2
  (e_Tok2
  (e_Tok2
  (e_Lok (ld_aload_n_0 (x_dk dn_381_0_1_ok 9 rfl)))
  (e_Tok2
  (e_Lok (lk_12_8g ho_381 (x_dk dn_381_0_1_ok 10 rfl)))
  (e_Lok (ld_iload_n_2 (x_dk dn_381_0_1_ok 11 rfl)))))
  (e_Tok2
  (e_Lok (ps_bipush_28 (x_dk dn_381_0_1_ok 12 rfl)))
  (e_Tok2
  (e_Lok (sm_iadd (x_dk dn_381_0_1_ok 13 rfl)))
  (e_Lok (ld_iload_4 (x_dk dn_381_0_1_ok 14 rfl))))))
  (e_Tok2
  (e_Tok2
  (e_Lok (sm_iadd (x_dk dn_381_0_1_ok 15 rfl)))
  (e_Tok2
  (e_Lok (sm_iaload (x_dk dn_381_0_1_ok 16 rfl)))
  (e_Lok (ld_aload_n_0 (x_dk dn_381_0_1_ok 17 rfl)))))
  (e_Tok2
  (e_Lok (lk_12_8g ho_381 (x_dk dn_381_0_1_ok 18 rfl)))
  (e_Tok2
  (e_Lok (ld_iload_n_2 (x_dk dn_381_0_1_ok 19 rfl)))
  (e_Lok (ps_bipush_16 (x_dk dn_381_0_1_ok 20 rfl))))))))
def te_381_46 : Nat → eE := (e_T 85 (e_T 74 (e_T 70 (e_T 69 (e_L 69 (0, ei_bin eF_add 70, 0, 0)) (e_L 70 (0, ei_load 4 0 72, 0, 0))) (e_T 72 (e_L 72 (0, ei_bin eF_add 73, 0, 0)) (e_T 73 (e_L 73 (0, ei_ald elay false 74, 0, 0)) (e_L 74 (0, ei_bin eF_sub 75, 0, 0))))) (e_T 79 (e_T 75 (e_L 75 (0, ei_stor 5 0 77, 0, 0)) (e_T 77 (e_L 77 (0, ei_load 5 0 79, 0, 0)) (e_L 79 (0, ei_if1 3 88 82, 0, 0)))) (e_T 82 (e_L 82 (0, ei_load 5 0 84, 0, 0)) (e_T 84 (e_L 84 (0, ei_un (fun x => (0, e32 (-x))) 85, 0, 0)) (e_L 85 (0, ei_goto 90, 0, 0)))))) (e_T 97 (e_T 91 (e_T 88 (e_L 88 (0, ei_load 5 0 90, 0, 0)) (e_T 90 (e_L 90 (0, ei_load 0 2 91, 0, 0)) (e_L 91 (0, ei_getf eft elay 12 19 94, 0, 0)))) (e_T 94 (e_L 94 (0, ei_push (0, 6) 96, 0, 0)) (e_T 96 (e_L 96 (0, ei_load 1 0 97, 0, 0)) (e_L 97 (0, ei_bin eF_mul 98, 0, 0))))) (e_T 101 (e_T 98 (e_L 98 (0, ei_load 4 0 100, 0, 0)) (e_T 100 (e_L 100 (0, ei_bin eF_add 101, 0, 0)) (e_L 101 (0, ei_ald elay false 102, 0, 0)))) (e_T 102 (e_L 102 (0, ei_load 0 2 103, 0, 0)) (e_T 103 (e_L 103 (0, ei_getf eft elay 12 20 106, 0, 0)) (e_L 106 (0, ei_push (0, 6) 108, 0, 0)))))))
set_option maxRecDepth 20000 in
set_option maxHeartbeats 4000000 in
theorem te_381_46_ok : ∀ pc, e_EOq eft cls elay eI n_381 pc (te_381_46 pc) :=
  (e_Tok2
  (e_Tok2
  (e_Tok2
  (e_Tok2
  (e_Lok (sm_iadd (x_dk dn_381_0_1_ok 21 rfl)))
  (e_Lok (ld_iload_4 (x_dk dn_381_0_1_ok 22 rfl))))
  (e_Tok2
  (e_Lok (sm_iadd (x_dk dn_381_0_1_ok 23 rfl)))
  (e_Tok2
  (e_Lok (sm_iaload (x_dk dn_381_0_1_ok 24 rfl)))
  (e_Lok (sm_isub (x_dk dn_381_0_2_ok 0 rfl))))))
  (e_Tok2
  (e_Tok2
  (e_Lok (e_st (I := eI) (er_istore (i := 5) (x_dk dn_381_0_2_ok 1 rfl) (by decide +kernel)) nx_stor))
  (e_Tok2
  (e_Lok (ld_iload_5 (x_dk dn_381_0_2_ok 2 rfl)))
  (e_Lok (e_st (I := eI) (er_ifge (off := 9) (tg := 88) (x_dk dn_381_0_2_ok 3 rfl) (by decide)) nx_if1))))
  (e_Tok2
  (e_Lok (ld_iload_5 (x_dk dn_381_0_2_ok 4 rfl)))
  (e_Tok2
  (e_Lok (e_st (I := eI) (er_ineg (x_dk dn_381_0_2_ok 5 rfl)) (nx_un (fun _ => rfl))))
  (e_Lok (e_st (I := eI) (er_goto (off := 5) (tg := 90) (x_dk dn_381_0_2_ok 6 rfl) (by decide)) nx_goto))))))
  (e_Tok2
  (e_Tok2
  (e_Tok2
  (e_Lok (ld_iload_5 (x_dk dn_381_0_2_ok 7 rfl)))
  (e_Tok2
  (e_Lok (ld_aload_n_0 (x_dk dn_381_0_2_ok 8 rfl)))
  (e_Lok (lk_12_55g ho_381 (x_dk dn_381_0_2_ok 9 rfl)))))
  (e_Tok2
  (e_Lok (ps_bipush_6 (x_dk dn_381_0_2_ok 10 rfl)))
  (e_Tok2
  (e_Lok (ld_iload_n_1 (x_dk dn_381_0_2_ok 11 rfl)))
  (e_Lok (sm_imul (x_dk dn_381_0_2_ok 12 rfl))))))
  (e_Tok2
  (e_Tok2
  (e_Lok (ld_iload_4 (x_dk dn_381_0_2_ok 13 rfl)))
  (e_Tok2
  (e_Lok (sm_iadd (x_dk dn_381_0_2_ok 14 rfl)))
  (e_Lok (sm_iaload (x_dk dn_381_0_2_ok 15 rfl)))))
  (e_Tok2
  (e_Lok (ld_aload_n_0 (x_dk dn_381_0_2_ok 16 rfl)))
  (e_Tok2
  (e_Lok (lk_12_58g ho_381 (x_dk dn_381_0_2_ok 17 rfl)))
  (e_Lok (ps_bipush_6 (x_dk dn_381_0_2_ok 18 rfl))))))))
def te_381_69 : Nat → eE := (e_T 127 (e_T 114 (e_T 110 (e_T 108 (e_L 108 (0, ei_load 1 0 109, 0, 0)) (e_T 109 (e_L 109 (0, ei_bin eF_mul 110, 0, 0)) (e_L 110 (0, ei_load 4 0 112, 0, 0)))) (e_T 112 (e_L 112 (0, ei_bin eF_add 113, 0, 0)) (e_T 113 (e_L 113 (0, ei_ald elay false 114, 0, 0)) (e_L 114 (2, e_nof, 382, 3))))) (e_T 121 (e_T 117 (e_L 117 (0, ei_stor 6 0 119, 0, 0)) (e_T 119 (e_L 119 (0, ei_load 6 0 121, 0, 0)) (e_L 121 (0, ei_load 3 0 122, 0, 0)))) (e_T 122 (e_L 122 (0, ei_if2 5 130 125, 0, 0)) (e_T 125 (e_L 125 (0, ei_load 6 0 127, 0, 0)) (e_L 127 (0, ei_goto 131, 0, 0)))))) (e_T 139 (e_T 132 (e_T 130 (e_L 130 (0, ei_load 3 0 131, 0, 0)) (e_T 131 (e_L 131 (0, ei_stor 3 0 132, 0, 0)) (e_L 132 (0, ei_inc 4 1 135, 0, 0)))) (e_T 135 (e_L 135 (0, ei_goto 39, 0, 0)) (e_T 138 (e_L 138 (0, ei_load 0 2 139, 0, 0)) (e_L 139 (0, ei_getf eft elay 12 0 142, 0, 0))))) (e_T 145 (e_T 142 (e_L 142 (0, ei_load 2 0 143, 0, 0)) (e_T 143 (e_L 143 (0, ei_push (0, 11) 145, 0, 0)) (e_L 145 (0, ei_bin eF_add 146, 0, 0)))) (e_T 146 (e_L 146 (0, ei_load 3 0 147, 0, 0)) (e_T 147 (e_L 147 (0, ei_ast elay false 148, 0, 0)) (e_L 148 (1, e_nof, 0, 0)))))))
set_option maxRecDepth 20000 in
set_option maxHeartbeats 4000000 in
theorem te_381_69_ok : ∀ pc, e_EOq eft cls elay eI n_381 pc (te_381_69 pc) :=
  (e_Tok2
  (e_Tok2
  (e_Tok2
  (e_Tok2
  (e_Lok (ld_iload_n_1 (x_dk dn_381_0_2_ok 19 rfl)))
  (e_Tok2
  (e_Lok (sm_imul (x_dk dn_381_0_2_ok 20 rfl)))
  (e_Lok (ld_iload_4 (x_dk dn_381_0_2_ok 21 rfl)))))
  (e_Tok2
  (e_Lok (sm_iadd (x_dk dn_381_0_2_ok 22 rfl)))
  (e_Tok2
  (e_Lok (sm_iaload (x_dk dn_381_0_2_ok 23 rfl)))
  (e_Lok (lk_12_747 ho_381 (x_dk dn_381_0_2_ok 24 rfl))))))
  (e_Tok2
  (e_Tok2
  (e_Lok (e_st (I := eI) (er_istore (i := 6) (x_dk dn_381_0_3_ok 0 rfl) (by decide +kernel)) nx_stor))
  (e_Tok2
  (e_Lok (ld_iload_6 (x_dk dn_381_0_3_ok 1 rfl)))
  (e_Lok (ld_iload_n_3 (x_dk dn_381_0_3_ok 2 rfl)))))
  (e_Tok2
  (e_Lok (e_st (I := eI) (er_icmple (off := 8) (tg := 130) (x_dk dn_381_0_3_ok 3 rfl) (by decide)) nx_if2))
  (e_Tok2
  (e_Lok (ld_iload_6 (x_dk dn_381_0_3_ok 4 rfl)))
  (e_Lok (e_st (I := eI) (er_goto (off := 4) (tg := 131) (x_dk dn_381_0_3_ok 5 rfl) (by decide)) nx_goto))))))
  (e_Tok2
  (e_Tok2
  (e_Tok2
  (e_Lok (ld_iload_n_3 (x_dk dn_381_0_3_ok 6 rfl)))
  (e_Tok2
  (e_Lok (e_st (I := eI) (er_istore_n (i := 3) (x_dk dn_381_0_3_ok 7 rfl) (by decide +kernel)) nx_stor))
  (e_Lok (e_st (I := eI) (er_iinc (i := 4) (n := 1) (x_dk dn_381_0_3_ok 8 rfl) (by decide +kernel) (by decide)) nx_inc))))
  (e_Tok2
  (e_Lok (e_st (I := eI) (er_goto (off := (-96)) (tg := 39) (x_dk dn_381_0_3_ok 9 rfl) (by decide)) nx_goto))
  (e_Tok2
  (e_Lok (ld_aload_n_0 (x_dk dn_381_0_3_ok 10 rfl)))
  (e_Lok (lk_12_8g ho_381 (x_dk dn_381_0_3_ok 11 rfl))))))
  (e_Tok2
  (e_Tok2
  (e_Lok (ld_iload_n_2 (x_dk dn_381_0_3_ok 12 rfl)))
  (e_Tok2
  (e_Lok (ps_bipush_11 (x_dk dn_381_0_3_ok 13 rfl)))
  (e_Lok (sm_iadd (x_dk dn_381_0_3_ok 14 rfl)))))
  (e_Tok2
  (e_Lok (ld_iload_n_3 (x_dk dn_381_0_3_ok 15 rfl)))
  (e_Tok2
  (e_Lok (sm_iastore (x_dk dn_381_0_3_ok 16 rfl)))
  (e_Lok (e_rt (I := eI) (k := 0) ⟨(x_dk dn_381_0_3_ok 17 rfl), rfl⟩)))))))
def te_381 : Nat → eE := (e_T 67 (e_T 32 te_381_0 te_381_23) (e_T 106 te_381_46 te_381_69))
theorem te_381_ok : ∀ pc, e_EOq eft cls elay eI n_381 pc (te_381 pc) := (e_Tok2 ((e_Tok2 (te_381_0_ok) (te_381_23_ok))) ((e_Tok2 (te_381_46_ok) (te_381_69_ok))))
theorem ho_382 : (xm_y n_382).cls = "RobotCellHouseModel" := rfl
def dn_382_0_0 : List (Nat × Instr × Nat) := [(0, .iconst 0, 1), (1, .istore_n 3, 1), (2, .lconst 0, 1), (3, .lstore 4, 2), (5, .lload 4, 2), (7, .iload_n 0, 1), (8, .i2l, 1), (9, .lcmp, 1), (10, .ifCond .ge 102, 3), (13, .iinc 3 1, 3), (16, .iload_n 3, 1), (17, .iconst 2, 1), (18, .idiv, 1), (19, .istore 6, 2), (21, .iload_n 1, 1), (22, .iload_n 2, 1), (23, .idiv, 1), (24, .istore 7, 2), (26, .iload 6, 2), (28, .iload 7, 2), (30, .if_icmp .ge 8, 3), (33, .iload 6, 2), (35, .goto 5, 3), (38, .iload 7, 2), (40, .istore 8, 2)]
set_option maxRecDepth 20000 in
theorem dn_382_0_0_ok : dn_382_0_0.all (fun q => decide (decode (xm_b n_382) q.1 = .ok (q.2.1, q.2.2))) = true := xa_g_ok (by decide +kernel)
def dn_382_0_1 : List (Nat × Instr × Nat) := [(42, .iload_n 2, 1), (43, .i2l, 1), (44, .iload 8, 2), (46, .i2l, 1), (47, .lmul, 1), (48, .iload 8, 2), (50, .iconst 1, 1), (51, .iadd, 1), (52, .i2l, 1), (53, .lmul, 1), (54, .ldc2_w 750, 3), (57, .iload 6, 2), (59, .iload 8, 2), (61, .isub, 1), (62, .i2l, 1), (63, .lmul, 1), (64, .iload_n 1, 1), (65, .i2l, 1), (66, .lmul, 1), (67, .ladd, 1), (68, .lstore 4, 2), (70, .iload_n 3, 1), (71, .iconst 2, 1), (72, .irem, 1), (73, .iconst 1, 1)]
set_option maxRecDepth 20000 in
theorem dn_382_0_1_ok : dn_382_0_1.all (fun q => decide (decode (xm_b n_382) q.1 = .ok (q.2.1, q.2.2))) = true := xa_g_ok (by decide +kernel)
def dn_382_0_2 : List (Nat × Instr × Nat) := [(74, .if_icmp .ne 35, 3), (77, .lload 4, 2), (79, .iload_n 2, 1), (80, .i2l, 1), (81, .iload 6, 2), (83, .iconst 1, 1), (84, .iadd, 1), (85, .i2l, 1), (86, .lmul, 1), (87, .iload_n 1, 1), (88, .i2l, 1), (89, .lcmp, 1), (90, .ifCond .ge 14, 3), (93, .iload_n 2, 1), (94, .i2l, 1), (95, .iload 6, 2), (97, .iconst 1, 1), (98, .iadd, 1), (99, .i2l, 1), (100, .lmul, 1), (101, .goto 5, 3), (104, .iload_n 1, 1), (105, .i2l, 1), (106, .ladd, 1), (107, .lstore 4, 2)]
set_option maxRecDepth 20000 in
theorem dn_382_0_2_ok : dn_382_0_2.all (fun q => decide (decode (xm_b n_382) q.1 = .ok (q.2.1, q.2.2))) = true := xa_g_ok (by decide +kernel)
def dn_382_0_3 : List (Nat × Instr × Nat) := [(109, .goto (-104), 3), (112, .iload_n 3, 1), (113, .ireturn, 1)]
set_option maxRecDepth 20000 in
theorem dn_382_0_3_ok : dn_382_0_3.all (fun q => decide (decode (xm_b n_382) q.1 = .ok (q.2.1, q.2.2))) = true := xa_g_ok (by decide +kernel)
def te_382_0 : Nat → eE := (e_T 26 (e_T 10 (e_T 3 (e_T 1 (e_T 0 (e_L 0 (0, ei_push (0, 0) 1, 0, 0)) (e_L 1 (0, ei_stor 3 0 2, 0, 0))) (e_T 2 (e_L 2 (0, ei_push (4, 0) 3, 0, 0)) (e_L 3 (0, ei_stor 4 1 5, 0, 0)))) (e_T 7 (e_T 5 (e_L 5 (0, ei_load 4 1 7, 0, 0)) (e_L 7 (0, ei_load 0 0 8, 0, 0))) (e_T 8 (e_L 8 (0, ei_un (fun x => (4, x)) 9, 0, 0)) (e_T 9 (e_L 9 (0, ei_binL eG_cmp 10, 0, 0)) (e_L 10 (0, ei_if1 3 112 13, 0, 0)))))) (e_T 19 (e_T 16 (e_T 13 (e_L 13 (0, ei_inc 3 1 16, 0, 0)) (e_L 16 (0, ei_load 3 0 17, 0, 0))) (e_T 17 (e_L 17 (0, ei_push (0, 2) 18, 0, 0)) (e_T 18 (e_L 18 (0, ei_bin eF_div 19, 0, 0)) (e_L 19 (0, ei_stor 6 0 21, 0, 0))))) (e_T 22 (e_T 21 (e_L 21 (0, ei_load 1 0 22, 0, 0)) (e_L 22 (0, ei_load 2 0 23, 0, 0))) (e_T 23 (e_L 23 (0, ei_bin eF_div 24, 0, 0)) (e_T 24 (e_L 24 (0, ei_stor 7 0 26, 0, 0)) (e_L 26 (0, ei_load 6 0 28, 0, 0))))))) (e_T 46 (e_T 38 (e_T 30 (e_T 28 (e_L 28 (0, ei_load 7 0 30, 0, 0)) (e_L 30 (0, ei_if2 3 38 33, 0, 0))) (e_T 33 (e_L 33 (0, ei_load 6 0 35, 0, 0)) (e_T 35 (e_L 35 (0, ei_goto 40, 0, 0)) (e_L 38 (0, ei_load 7 0 40, 0, 0))))) (e_T 42 (e_T 40 (e_L 40 (0, ei_stor 8 0 42, 0, 0)) (e_L 42 (0, ei_load 2 0 43, 0, 0))) (e_T 43 (e_L 43 (0, ei_un (fun x => (4, x)) 44, 0, 0)) (e_T 44 (e_L 44 (0, ei_load 8 0 46, 0, 0)) (e_L 46 (0, ei_un (fun x => (4, x)) 47, 0, 0)))))) (e_T 52 (e_T 48 (e_T 47 (e_L 47 (0, ei_binL eG_mul 48, 0, 0)) (e_L 48 (0, ei_load 8 0 50, 0, 0))) (e_T 50 (e_L 50 (0, ei_push (0, 1) 51, 0, 0)) (e_T 51 (e_L 51 (0, ei_bin eF_add 52, 0, 0)) (e_L 52 (0, ei_un (fun x => (4, x)) 53, 0, 0))))) (e_T 54 (e_T 53 (e_L 53 (0, ei_binL eG_mul 54, 0, 0)) (e_L 54 (0, ei_push (4, 2) 57, 0, 0))) (e_T 57 (e_L 57 (0, ei_load 6 0 59, 0, 0)) (e_T 59 (e_L 59 (0, ei_load 8 0 61, 0, 0)) (e_L 61 (0, ei_bin eF_sub 62, 0, 0))))))))
set_option maxRecDepth 20000 in
set_option maxHeartbeats 4000000 in
theorem te_382_0_ok : ∀ pc, e_EOq eft cls elay eI n_382 pc (te_382_0 pc) :=
  (e_Tok2
  (e_Tok2
  (e_Tok2
  (e_Tok2
  (e_Tok2
  (e_Lok (ps_iconst_0 (x_dk dn_382_0_0_ok 0 rfl)))
  (e_Lok (e_st (I := eI) (er_istore_n (i := 3) (x_dk dn_382_0_0_ok 1 rfl) (by decide +kernel)) nx_stor)))
  (e_Tok2
  (e_Lok (ps_lconst_0 (x_dk dn_382_0_0_ok 2 rfl)))
  (e_Lok (e_st (I := eI) (er_lstore (i := 4) (x_dk dn_382_0_0_ok 3 rfl) (by decide +kernel)) nx_stor))))
  (e_Tok2
  (e_Tok2
  (e_Lok (ld_lload_4 (x_dk dn_382_0_0_ok 4 rfl)))
  (e_Lok (ld_iload_n_0 (x_dk dn_382_0_0_ok 5 rfl))))
  (e_Tok2
  (e_Lok (e_st (I := eI) (er_i2l (x_dk dn_382_0_0_ok 6 rfl)) (nx_un (fun _ => rfl))))
  (e_Tok2
  (e_Lok (e_st (I := eI) (er_lcmp (x_dk dn_382_0_0_ok 7 rfl)) (nx_binL bG_lcmp)))
  (e_Lok (e_st (I := eI) (er_ifge (off := 102) (tg := 112) (x_dk dn_382_0_0_ok 8 rfl) (by decide)) nx_if1))))))
  (e_Tok2
  (e_Tok2
  (e_Tok2
  (e_Lok (e_st (I := eI) (er_iinc (i := 3) (n := 1) (x_dk dn_382_0_0_ok 9 rfl) (by decide +kernel) (by decide)) nx_inc))
  (e_Lok (ld_iload_n_3 (x_dk dn_382_0_0_ok 10 rfl))))
  (e_Tok2
  (e_Lok (ps_iconst_2 (x_dk dn_382_0_0_ok 11 rfl)))
  (e_Tok2
  (e_Lok (e_st (I := eI) (er_idiv (x_dk dn_382_0_0_ok 12 rfl)) nx_bin))
  (e_Lok (e_st (I := eI) (er_istore (i := 6) (x_dk dn_382_0_0_ok 13 rfl) (by decide +kernel)) nx_stor)))))
  (e_Tok2
  (e_Tok2
  (e_Lok (ld_iload_n_1 (x_dk dn_382_0_0_ok 14 rfl)))
  (e_Lok (ld_iload_n_2 (x_dk dn_382_0_0_ok 15 rfl))))
  (e_Tok2
  (e_Lok (e_st (I := eI) (er_idiv (x_dk dn_382_0_0_ok 16 rfl)) nx_bin))
  (e_Tok2
  (e_Lok (e_st (I := eI) (er_istore (i := 7) (x_dk dn_382_0_0_ok 17 rfl) (by decide +kernel)) nx_stor))
  (e_Lok (ld_iload_6 (x_dk dn_382_0_0_ok 18 rfl))))))))
  (e_Tok2
  (e_Tok2
  (e_Tok2
  (e_Tok2
  (e_Lok (ld_iload_7 (x_dk dn_382_0_0_ok 19 rfl)))
  (e_Lok (e_st (I := eI) (er_icmpge (off := 8) (tg := 38) (x_dk dn_382_0_0_ok 20 rfl) (by decide)) nx_if2)))
  (e_Tok2
  (e_Lok (ld_iload_6 (x_dk dn_382_0_0_ok 21 rfl)))
  (e_Tok2
  (e_Lok (e_st (I := eI) (er_goto (off := 5) (tg := 40) (x_dk dn_382_0_0_ok 22 rfl) (by decide)) nx_goto))
  (e_Lok (ld_iload_7 (x_dk dn_382_0_0_ok 23 rfl))))))
  (e_Tok2
  (e_Tok2
  (e_Lok (e_st (I := eI) (er_istore (i := 8) (x_dk dn_382_0_0_ok 24 rfl) (by decide +kernel)) nx_stor))
  (e_Lok (ld_iload_n_2 (x_dk dn_382_0_1_ok 0 rfl))))
  (e_Tok2
  (e_Lok (e_st (I := eI) (er_i2l (x_dk dn_382_0_1_ok 1 rfl)) (nx_un (fun _ => rfl))))
  (e_Tok2
  (e_Lok (ld_iload_8 (x_dk dn_382_0_1_ok 2 rfl)))
  (e_Lok (e_st (I := eI) (er_i2l (x_dk dn_382_0_1_ok 3 rfl)) (nx_un (fun _ => rfl))))))))
  (e_Tok2
  (e_Tok2
  (e_Tok2
  (e_Lok (e_st (I := eI) (er_lmul (x_dk dn_382_0_1_ok 4 rfl)) (nx_binL bG_lmul)))
  (e_Lok (ld_iload_8 (x_dk dn_382_0_1_ok 5 rfl))))
  (e_Tok2
  (e_Lok (ps_iconst_1 (x_dk dn_382_0_1_ok 6 rfl)))
  (e_Tok2
  (e_Lok (sm_iadd (x_dk dn_382_0_1_ok 7 rfl)))
  (e_Lok (e_st (I := eI) (er_i2l (x_dk dn_382_0_1_ok 8 rfl)) (nx_un (fun _ => rfl)))))))
  (e_Tok2
  (e_Tok2
  (e_Lok (e_st (I := eI) (er_lmul (x_dk dn_382_0_1_ok 9 rfl)) (nx_binL bG_lmul)))
  (e_Lok (e_st (I := eI) (er_ldc2 (ix := 750) (z := 2) (v := 2) (x_dk dn_382_0_1_ok 10 rfl) (in_t12 (List.mem_of_getElem? (i := 185) rfl) rfl) (by decide)) (nx_push (Or.inl rfl)))))
  (e_Tok2
  (e_Lok (ld_iload_6 (x_dk dn_382_0_1_ok 11 rfl)))
  (e_Tok2
  (e_Lok (ld_iload_8 (x_dk dn_382_0_1_ok 12 rfl)))
  (e_Lok (sm_isub (x_dk dn_382_0_1_ok 13 rfl)))))))))
def te_382_39 : Nat → eE := (e_T 85 (e_T 71 (e_T 65 (e_T 63 (e_T 62 (e_L 62 (0, ei_un (fun x => (4, x)) 63, 0, 0)) (e_L 63 (0, ei_binL eG_mul 64, 0, 0))) (e_T 64 (e_L 64 (0, ei_load 1 0 65, 0, 0)) (e_L 65 (0, ei_un (fun x => (4, x)) 66, 0, 0)))) (e_T 67 (e_T 66 (e_L 66 (0, ei_binL eG_mul 67, 0, 0)) (e_L 67 (0, ei_binL eG_add 68, 0, 0))) (e_T 68 (e_L 68 (0, ei_stor 4 1 70, 0, 0)) (e_T 70 (e_L 70 (0, ei_load 3 0 71, 0, 0)) (e_L 71 (0, ei_push (0, 2) 72, 0, 0)))))) (e_T 79 (e_T 73 (e_T 72 (e_L 72 (0, ei_bin eF_rem 73, 0, 0)) (e_L 73 (0, ei_push (0, 1) 74, 0, 0))) (e_T 74 (e_L 74 (0, ei_if2 1 109 77, 0, 0)) (e_T 77 (e_L 77 (0, ei_load 4 1 79, 0, 0)) (e_L 79 (0, ei_load 2 0 80, 0, 0))))) (e_T 81 (e_T 80 (e_L 80 (0, ei_un (fun x => (4, x)) 81, 0, 0)) (e_L 81 (0, ei_load 6 0 83, 0, 0))) (e_T 83 (e_L 83 (0, ei_push (0, 1) 84, 0, 0)) (e_T 84 (e_L 84 (0, ei_bin eF_add 85, 0, 0)) (e_L 85 (0, ei_un (fun x => (4, x)) 86, 0, 0))))))) (e_T 98 (e_T 90 (e_T 87 (e_T 86 (e_L 86 (0, ei_binL eG_mul 87, 0, 0)) (e_L 87 (0, ei_load 1 0 88, 0, 0))) (e_T 88 (e_L 88 (0, ei_un (fun x => (4, x)) 89, 0, 0)) (e_T 89 (e_L 89 (0, ei_binL eG_cmp 90, 0, 0)) (e_L 90 (0, ei_if1 3 104 93, 0, 0))))) (e_T 94 (e_T 93 (e_L 93 (0, ei_load 2 0 94, 0, 0)) (e_L 94 (0, ei_un (fun x => (4, x)) 95, 0, 0))) (e_T 95 (e_L 95 (0, ei_load 6 0 97, 0, 0)) (e_T 97 (e_L 97 (0, ei_push (0, 1) 98, 0, 0)) (e_L 98 (0, ei_bin eF_add 99, 0, 0)))))) (e_T 105 (e_T 100 (e_T 99 (e_L 99 (0, ei_un (fun x => (4, x)) 100, 0, 0)) (e_L 100 (0, ei_binL eG_mul 101, 0, 0))) (e_T 101 (e_L 101 (0, ei_goto 106, 0, 0)) (e_T 104 (e_L 104 (0, ei_load 1 0 105, 0, 0)) (e_L 105 (0, ei_un (fun x => (4, x)) 106, 0, 0))))) (e_T 107 (e_T 106 (e_L 106 (0, ei_binL eG_add 107, 0, 0)) (e_L 107 (0, ei_stor 4 1 109, 0, 0))) (e_T 109 (e_L 109 (0, ei_goto 5, 0, 0)) (e_T 112 (e_L 112 (0, ei_load 3 0 113, 0, 0)) (e_L 113 (1, e_nof, 1, 0))))))))
set_option maxRecDepth 20000 in
set_option maxHeartbeats 4000000 in
theorem te_382_39_ok : ∀ pc, e_EOq eft cls elay eI n_382 pc (te_382_39 pc) :=
  (e_Tok2
  (e_Tok2
  (e_Tok2
  (e_Tok2
  (e_Tok2
  (e_Lok (e_st (I := eI) (er_i2l (x_dk dn_382_0_1_ok 14 rfl)) (nx_un (fun _ => rfl))))
  (e_Lok (e_st (I := eI) (er_lmul (x_dk dn_382_0_1_ok 15 rfl)) (nx_binL bG_lmul))))
  (e_Tok2
  (e_Lok (ld_iload_n_1 (x_dk dn_382_0_1_ok 16 rfl)))
  (e_Lok (e_st (I := eI) (er_i2l (x_dk dn_382_0_1_ok 17 rfl)) (nx_un (fun _ => rfl))))))
  (e_Tok2
  (e_Tok2
  (e_Lok (e_st (I := eI) (er_lmul (x_dk dn_382_0_1_ok 18 rfl)) (nx_binL bG_lmul)))
  (e_Lok (e_st (I := eI) (er_ladd (x_dk dn_382_0_1_ok 19 rfl)) (nx_binL bG_ladd))))
  (e_Tok2
  (e_Lok (e_st (I := eI) (er_lstore (i := 4) (x_dk dn_382_0_1_ok 20 rfl) (by decide +kernel)) nx_stor))
  (e_Tok2
  (e_Lok (ld_iload_n_3 (x_dk dn_382_0_1_ok 21 rfl)))
  (e_Lok (ps_iconst_2 (x_dk dn_382_0_1_ok 22 rfl)))))))
  (e_Tok2
  (e_Tok2
  (e_Tok2
  (e_Lok (e_st (I := eI) (er_irem (x_dk dn_382_0_1_ok 23 rfl)) nx_bin))
  (e_Lok (ps_iconst_1 (x_dk dn_382_0_1_ok 24 rfl))))
  (e_Tok2
  (e_Lok (e_st (I := eI) (er_icmpne (off := 35) (tg := 109) (x_dk dn_382_0_2_ok 0 rfl) (by decide)) nx_if2))
  (e_Tok2
  (e_Lok (ld_lload_4 (x_dk dn_382_0_2_ok 1 rfl)))
  (e_Lok (ld_iload_n_2 (x_dk dn_382_0_2_ok 2 rfl))))))
  (e_Tok2
  (e_Tok2
  (e_Lok (e_st (I := eI) (er_i2l (x_dk dn_382_0_2_ok 3 rfl)) (nx_un (fun _ => rfl))))
  (e_Lok (ld_iload_6 (x_dk dn_382_0_2_ok 4 rfl))))
  (e_Tok2
  (e_Lok (ps_iconst_1 (x_dk dn_382_0_2_ok 5 rfl)))
  (e_Tok2
  (e_Lok (sm_iadd (x_dk dn_382_0_2_ok 6 rfl)))
  (e_Lok (e_st (I := eI) (er_i2l (x_dk dn_382_0_2_ok 7 rfl)) (nx_un (fun _ => rfl)))))))))
  (e_Tok2
  (e_Tok2
  (e_Tok2
  (e_Tok2
  (e_Lok (e_st (I := eI) (er_lmul (x_dk dn_382_0_2_ok 8 rfl)) (nx_binL bG_lmul)))
  (e_Lok (ld_iload_n_1 (x_dk dn_382_0_2_ok 9 rfl))))
  (e_Tok2
  (e_Lok (e_st (I := eI) (er_i2l (x_dk dn_382_0_2_ok 10 rfl)) (nx_un (fun _ => rfl))))
  (e_Tok2
  (e_Lok (e_st (I := eI) (er_lcmp (x_dk dn_382_0_2_ok 11 rfl)) (nx_binL bG_lcmp)))
  (e_Lok (e_st (I := eI) (er_ifge (off := 14) (tg := 104) (x_dk dn_382_0_2_ok 12 rfl) (by decide)) nx_if1)))))
  (e_Tok2
  (e_Tok2
  (e_Lok (ld_iload_n_2 (x_dk dn_382_0_2_ok 13 rfl)))
  (e_Lok (e_st (I := eI) (er_i2l (x_dk dn_382_0_2_ok 14 rfl)) (nx_un (fun _ => rfl)))))
  (e_Tok2
  (e_Lok (ld_iload_6 (x_dk dn_382_0_2_ok 15 rfl)))
  (e_Tok2
  (e_Lok (ps_iconst_1 (x_dk dn_382_0_2_ok 16 rfl)))
  (e_Lok (sm_iadd (x_dk dn_382_0_2_ok 17 rfl)))))))
  (e_Tok2
  (e_Tok2
  (e_Tok2
  (e_Lok (e_st (I := eI) (er_i2l (x_dk dn_382_0_2_ok 18 rfl)) (nx_un (fun _ => rfl))))
  (e_Lok (e_st (I := eI) (er_lmul (x_dk dn_382_0_2_ok 19 rfl)) (nx_binL bG_lmul))))
  (e_Tok2
  (e_Lok (e_st (I := eI) (er_goto (off := 5) (tg := 106) (x_dk dn_382_0_2_ok 20 rfl) (by decide)) nx_goto))
  (e_Tok2
  (e_Lok (ld_iload_n_1 (x_dk dn_382_0_2_ok 21 rfl)))
  (e_Lok (e_st (I := eI) (er_i2l (x_dk dn_382_0_2_ok 22 rfl)) (nx_un (fun _ => rfl)))))))
  (e_Tok2
  (e_Tok2
  (e_Lok (e_st (I := eI) (er_ladd (x_dk dn_382_0_2_ok 23 rfl)) (nx_binL bG_ladd)))
  (e_Lok (e_st (I := eI) (er_lstore (i := 4) (x_dk dn_382_0_2_ok 24 rfl) (by decide +kernel)) nx_stor)))
  (e_Tok2
  (e_Lok (e_st (I := eI) (er_goto (off := (-104)) (tg := 5) (x_dk dn_382_0_3_ok 0 rfl) (by decide)) nx_goto))
  (e_Tok2
  (e_Lok (ld_iload_n_3 (x_dk dn_382_0_3_ok 1 rfl)))
  (e_Lok (e_rt (I := eI) (k := 1) ⟨(x_dk dn_382_0_3_ok 2 rfl), rfl⟩))))))))
def te_382 : Nat → eE := (e_T 61 te_382_0 te_382_39)
theorem te_382_ok : ∀ pc, e_EOq eft cls elay eI n_382 pc (te_382 pc) := (e_Tok2 (te_382_0_ok) (te_382_39_ok))
end
