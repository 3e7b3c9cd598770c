noncomputable section
theorem ho_340 : (xm_y n_340).cls = "RobotCellHouseModel" := rfl
def dn_340_0_0 : List (Nat × Instr × Nat) := [(0, .aload_n 0, 1), (1, .invokevirtual 572, 3), (4, .iconst (-1), 1), (5, .istore_n 1, 1), (6, .aload_n 0, 1), (7, .getfield 530, 3), (10, .ifCond .ne 31, 3), (13, .aload_n 0, 1), (14, .bipush 25, 2), (16, .invokevirtual 562, 3), (19, .ifCond .eq 22, 3), (22, .aload_n 0, 1), (23, .bipush 23, 2), (25, .iload_n 1, 1), (26, .invokevirtual 565, 3), (29, .istore_n 1, 1), (30, .aload_n 0, 1), (31, .invokevirtual 536, 3), (34, .aload_n 0, 1), (35, .invokevirtual 572, 3), (38, .goto (-32), 3), (41, .aload_n 0, 1), (42, .iload_n 1, 1), (43, .invokevirtual 569, 3), (46, .return_, 1)]
set_option maxRecDepth 20000 in
theorem dn_340_0_0_ok : dn_340_0_0.all (fun q => decide (decode (xm_b n_340) q.1 = .ok (q.2.1, q.2.2))) = true := xa_g_ok (by decide +kernel)
def te_340_0 : Nat → eE := (e_T 22 (e_T 7 (e_T 4 (e_T 0 (e_L 0 (0, ei_load 0 2 1, 0, 0)) (e_T 1 (e_L 1 (2, e_nof, 342, 1)) (e_L 4 (0, ei_push (0, (-1)) 5, 0, 0)))) (e_T 5 (e_L 5 (0, ei_stor 1 0 6, 0, 0)) (e_T 6 (e_L 6 (0, ei_load 0 2 7, 0, 0)) (e_L 7 (0, ei_getf eft elay 12 88 10, 0, 0))))) (e_T 14 (e_T 10 (e_L 10 (0, ei_if1 1 41 13, 0, 0)) (e_T 13 (e_L 13 (0, ei_load 0 2 14, 0, 0)) (e_L 14 (0, ei_push (0, 25) 16, 0, 0)))) (e_T 16 (e_L 16 (2, e_nof, 332, 2)) (e_T 19 (e_L 19 (0, ei_if1 0 41 22, 0, 0)) (e_L 22 (0, ei_load 0 2 23, 0, 0)))))) (e_T 31 (e_T 26 (e_T 23 (e_L 23 (0, ei_push (0, 23) 25, 0, 0)) (e_T 25 (e_L 25 (0, ei_load 1 0 26, 0, 0)) (e_L 26 (2, e_nof, 336, 3)))) (e_T 29 (e_L 29 (0, ei_stor 1 0 30, 0, 0)) (e_T 30 (e_L 30 (0, ei_load 0 2 31, 0, 0)) (e_L 31 (2, e_nof, 327, 1))))) (e_T 38 (e_T 34 (e_L 34 (0, ei_load 0 2 35, 0, 0)) (e_T 35 (e_L 35 (2, e_nof, 342, 1)) (e_L 38 (0, ei_goto 6, 0, 0)))) (e_T 42 (e_T 41 (e_L 41 (0, ei_load 0 2 42, 0, 0)) (e_L 42 (0, ei_load 1 0 43, 0, 0))) (e_T 43 (e_L 43 (2, e_nof, 341, 2)) (e_L 46 (1, e_nof, 0, 0)))))))
set_option maxRecDepth 20000 in
set_option maxHeartbeats 4000000 in
theorem te_340_0_ok : ∀ pc, e_EOq eft cls elay eI n_340 pc (te_340_0 pc) :=
  (e_Tok2
  (e_Tok2
  (e_Tok2
  (e_Tok2
  (e_Lok (ld_aload_n_0 (x_dk dn_340_0_0_ok 0 rfl)))
  (e_Tok2
  (e_Lok (lk_12_572 ho_340 (x_dk dn_340_0_0_ok 1 rfl)))
  (e_Lok (ps_iconst_m1 (x_dk dn_340_0_0_ok 2 rfl)))))
  (e_Tok2
  (e_Lok (e_st (I := eI) (er_istore_n (i := 1) (x_dk dn_340_0_0_ok 3 rfl) (by decide +kernel)) nx_stor))
  (e_Tok2
  (e_Lok (ld_aload_n_0 (x_dk dn_340_0_0_ok 4 rfl)))
  (e_Lok (lk_12_530g ho_340 (x_dk dn_340_0_0_ok 5 rfl))))))
  (e_Tok2
  (e_Tok2
  (e_Lok (e_st (I := eI) (er_ifne (off := 31) (tg := 41) (x_dk dn_340_0_0_ok 6 rfl) (by decide)) nx_if1))
  (e_Tok2
  (e_Lok (ld_aload_n_0 (x_dk dn_340_0_0_ok 7 rfl)))
  (e_Lok (ps_bipush_25 (x_dk dn_340_0_0_ok 8 rfl)))))
  (e_Tok2
  (e_Lok (lk_12_562 ho_340 (x_dk dn_340_0_0_ok 9 rfl)))
  (e_Tok2
  (e_Lok (e_st (I := eI) (er_ifeq (off := 22) (tg := 41) (x_dk dn_340_0_0_ok 10 rfl) (by decide)) nx_if1))
  (e_Lok (ld_aload_n_0 (x_dk dn_340_0_0_ok 11 rfl)))))))
  (e_Tok2
  (e_Tok2
  (e_Tok2
  (e_Lok (ps_bipush_23 (x_dk dn_340_0_0_ok 12 rfl)))
  (e_Tok2
  (e_Lok (ld_iload_n_1 (x_dk dn_340_0_0_ok 13 rfl)))
  (e_Lok (lk_12_565 ho_340 (x_dk dn_340_0_0_ok 14 rfl)))))
  (e_Tok2
  (e_Lok (e_st (I := eI) (er_istore_n (i := 1) (x_dk dn_340_0_0_ok 15 rfl) (by decide +kernel)) nx_stor))
  (e_Tok2
  (e_Lok (ld_aload_n_0 (x_dk dn_340_0_0_ok 16 rfl)))
  (e_Lok (lk_12_536 ho_340 (x_dk dn_340_0_0_ok 17 rfl))))))
  (e_Tok2
  (e_Tok2
  (e_Lok (ld_aload_n_0 (x_dk dn_340_0_0_ok 18 rfl)))
  (e_Tok2
  (e_Lok (lk_12_572 ho_340 (x_dk dn_340_0_0_ok 19 rfl)))
  (e_Lok (e_st (I := eI) (er_goto (off := (-32)) (tg := 6) (x_dk dn_340_0_0_ok 20 rfl) (by decide)) nx_goto))))
  (e_Tok2
  (e_Tok2
  (e_Lok (ld_aload_n_0 (x_dk dn_340_0_0_ok 21 rfl)))
  (e_Lok (ld_iload_n_1 (x_dk dn_340_0_0_ok 22 rfl))))
  (e_Tok2
  (e_Lok (lk_12_569 ho_340 (x_dk dn_340_0_0_ok 23 rfl)))
  (e_Lok (e_rt (I := eI) (k := 0) ⟨(x_dk dn_340_0_0_ok 24 rfl), rfl⟩)))))))
def te_340 : Nat → eE := te_340_0
theorem te_340_ok : ∀ pc, e_EOq eft cls elay eI n_340 pc (te_340 pc) := te_340_0_ok
theorem ho_341 : (xm_y n_341).cls = "RobotCellHouseModel" := rfl
def dn_341_0_0 : List (Nat × Instr × Nat) := [(0, .iload_n 1, 1), (1, .ifCond .ge 4, 3), (4, .return_, 1), (5, .aload_n 0, 1), (6, .bipush 24, 2), (8, .iconst 0, 1), (9, .invokevirtual 565, 3), (12, .pop, 1), (13, .iload_n 1, 1), (14, .istore_n 2, 1), (15, .iload_n 2, 1), (16, .ifCond .lt 24, 3), (19, .aload_n 0, 1), (20, .getfield 174, 3), (23, .ldc_w 545, 3), (26, .iload_n 2, 1), (27, .iadd, 1), (28, .iaload, 1), (29, .istore_n 3, 1), (30, .aload_n 0, 1), (31, .iload_n 2, 1), (32, .invokevirtual 575, 3), (35, .iload_n 3, 1), (36, .istore_n 2, 1), (37, .goto (-22), 3)]
set_option maxRecDepth 20000 in
theorem dn_341_0_0_ok : dn_341_0_0.all (fun q => decide (decode (xm_b n_341) q.1 = .ok (q.2.1, q.2.2))) = true := xa_g_ok (by decide +kernel)
def dn_341_0_1 : List (Nat × Instr × Nat) := [(40, .return_, 1)]
set_option maxRecDepth 20000 in
theorem dn_341_0_1_ok : dn_341_0_1.all (fun q => decide (decode (xm_b n_341) q.1 = .ok (q.2.1, q.2.2))) = true := xa_g_ok (by decide +kernel)
def te_341_0 : Nat → eE := (e_T 19 (e_T 8 (e_T 4 (e_T 0 (e_L 0 (0, ei_load 1 0 1, 0, 0)) (e_T 1 (e_L 1 (0, ei_if1 3 5 4, 0, 0)) (e_L 4 (1, e_nof, 0, 0)))) (e_T 5 (e_L 5 (0, ei_load 0 2 6, 0, 0)) (e_T 6 (e_L 6 (0, ei_push (0, 24) 8, 0, 0)) (e_L 8 (0, ei_push (0, 0) 9, 0, 0))))) (e_T 13 (e_T 9 (e_L 9 (2, e_nof, 336, 3)) (e_T 12 (e_L 12 (0, ei_stk ef_pop 13, 0, 0)) (e_L 13 (0, ei_load 1 0 14, 0, 0)))) (e_T 15 (e_T 14 (e_L 14 (0, ei_stor 2 0 15, 0, 0)) (e_L 15 (0, ei_load 2 0 16, 0, 0))) (e_T 16 (e_L 16 (0, ei_if1 2 40 19, 0, 0)) (e_L 19 (0, ei_load 0 2 20, 0, 0)))))) (e_T 29 (e_T 26 (e_T 20 (e_L 20 (0, ei_getf eft elay 12 66 23, 0, 0)) (e_T 23 (e_L 23 (0, ei_push (0, 40000) 26, 0, 0)) (e_L 26 (0, ei_load 2 0 27, 0, 0)))) (e_T 27 (e_L 27 (0, ei_bin eF_add 28, 0, 0)) (e_T 28 (e_L 28 (0, ei_ald elay false 29, 0, 0)) (e_L 29 (0, ei_stor 3 0 30, 0, 0))))) (e_T 32 (e_T 30 (e_L 30 (0, ei_load 0 2 31, 0, 0)) (e_T 31 (e_L 31 (0, ei_load 2 0 32, 0, 0)) (e_L 32 (2, e_nof, 337, 2)))) (e_T 36 (e_T 35 (e_L 35 (0, ei_load 3 0 36, 0, 0)) (e_L 36 (0, ei_stor 2 0 37, 0, 0))) (e_T 37 (e_L 37 (0, ei_goto 15, 0, 0)) (e_L 40 (1, e_nof, 0, 0)))))))
set_option maxRecDepth 20000 in
set_option maxHeartbeats 4000000 in
theorem te_341_0_ok : ∀ pc, e_EOq eft cls elay eI n_341 pc (te_341_0 pc) :=
  (e_Tok2
  (e_Tok2
  (e_Tok2
  (e_Tok2
  (e_Lok (ld_iload_n_1 (x_dk dn_341_0_0_ok 0 rfl)))
  (e_Tok2
  (e_Lok (e_st (I := eI) (er_ifge (off := 4) (tg := 5) (x_dk dn_341_0_0_ok 1 rfl) (by decide)) nx_if1))
  (e_Lok (e_rt (I := eI) (k := 0) ⟨(x_dk dn_341_0_0_ok 2 rfl), rfl⟩))))
  (e_Tok2
  (e_Lok (ld_aload_n_0 (x_dk dn_341_0_0_ok 3 rfl)))
  (e_Tok2
  (e_Lok (ps_bipush_24 (x_dk dn_341_0_0_ok 4 rfl)))
  (e_Lok (ps_iconst_0 (x_dk dn_341_0_0_ok 5 rfl))))))
  (e_Tok2
  (e_Tok2
  (e_Lok (lk_12_565 ho_341 (x_dk dn_341_0_0_ok 6 rfl)))
  (e_Tok2
  (e_Lok (e_st (I := eI) (er_pop (x_dk dn_341_0_0_ok 7 rfl)) (nx_stk bf_pop)))
  (e_Lok (ld_iload_n_1 (x_dk dn_341_0_0_ok 8 rfl)))))
  (e_Tok2
  (e_Tok2
  (e_Lok (e_st (I := eI) (er_istore_n (i := 2) (x_dk dn_341_0_0_ok 9 rfl) (by decide +kernel)) nx_stor))
  (e_Lok (ld_iload_n_2 (x_dk dn_341_0_0_ok 10 rfl))))
  (e_Tok2
  (e_Lok (e_st (I := eI) (er_iflt (off := 24) (tg := 40) (x_dk dn_341_0_0_ok 11 rfl) (by decide)) nx_if1))
  (e_Lok (ld_aload_n_0 (x_dk dn_341_0_0_ok 12 rfl)))))))
  (e_Tok2
  (e_Tok2
  (e_Tok2
  (e_Lok (lk_12_174g ho_341 (x_dk dn_341_0_0_ok 13 rfl)))
  (e_Tok2
  (e_Lok (e_st (I := eI) (er_ldcw (ix := 545) (z := 40000) (v := 40000) (x_dk dn_341_0_0_ok 14 rfl) (in_t12 (List.mem_of_getElem? (i := 40) rfl) rfl) (by decide)) (nx_push (Or.inl rfl))))
  (e_Lok (ld_iload_n_2 (x_dk dn_341_0_0_ok 15 rfl)))))
  (e_Tok2
  (e_Lok (sm_iadd (x_dk dn_341_0_0_ok 16 rfl)))
  (e_Tok2
  (e_Lok (sm_iaload (x_dk dn_341_0_0_ok 17 rfl)))
  (e_Lok (e_st (I := eI) (er_istore_n (i := 3) (x_dk dn_341_0_0_ok 18 rfl) (by decide +kernel)) nx_stor)))))
  (e_Tok2
  (e_Tok2
  (e_Lok (ld_aload_n_0 (x_dk dn_341_0_0_ok 19 rfl)))
  (e_Tok2
  (e_Lok (ld_iload_n_2 (x_dk dn_341_0_0_ok 20 rfl)))
  (e_Lok (lk_12_575 ho_341 (x_dk dn_341_0_0_ok 21 rfl)))))
  (e_Tok2
  (e_Tok2
  (e_Lok (ld_iload_n_3 (x_dk dn_341_0_0_ok 22 rfl)))
  (e_Lok (e_st (I := eI) (er_istore_n (i := 2) (x_dk dn_341_0_0_ok 23 rfl) (by decide +kernel)) nx_stor)))
  (e_Tok2
  (e_Lok (e_st (I := eI) (er_goto (off := (-22)) (tg := 15) (x_dk dn_341_0_0_ok 24 rfl) (by decide)) nx_goto))
  (e_Lok (e_rt (I := eI) (k := 0) ⟨(x_dk dn_341_0_1_ok 0 rfl), rfl⟩)))))))
def te_341 : Nat → eE := te_341_0
theorem te_341_ok : ∀ pc, e_EOq eft cls elay eI n_341 pc (te_341 pc) := te_341_0_ok
theorem ho_342 : (xm_y n_342).cls = "RobotCellHouseModel" := rfl
def dn_342_0_0 : List (Nat × Instr × Nat) := [(0, .aload_n 0, 1), (1, .getfield 530, 3), (4, .ifCond .ne 43, 3), (7, .aload_n 0, 1), (8, .bipush 26, 2), (10, .invokevirtual 562, 3), (13, .ifCond .eq 34, 3), (16, .aload_n 0, 1), (17, .invokevirtual 578, 3), (20, .aload_n 0, 1), (21, .invokevirtual 536, 3), (24, .aload_n 0, 1), (25, .invokevirtual 572, 3), (28, .aload_n 0, 1), (29, .dup, 1), (30, .getfield 542, 3), (33, .iconst 1, 1), (34, .isub, 1), (35, .putfield 542, 3), (38, .aload_n 0, 1), (39, .bipush 21, 2), (41, .iconst 0, 1), (42, .invokevirtual 565, 3), (45, .pop, 1), (46, .return_, 1)]
set_option maxRecDepth 20000 in
theorem dn_342_0_0_ok : dn_342_0_0.all (fun q => decide (decode (xm_b n_342) q.1 = .ok (q.2.1, q.2.2))) = true := xa_g_ok (by decide +kernel)
def dn_342_0_1 : List (Nat × Instr × Nat) := [(47, .aload_n 0, 1), (48, .invokevirtual 580, 3), (51, .aload_n 0, 1), (52, .getfield 530, 3), (55, .ifCond .ne 11, 3), (58, .aload_n 0, 1), (59, .getfield 497, 3), (62, .iconst 3, 1), (63, .if_icmp .eq 7, 3), (66, .iconst 0, 1), (67, .goto 88, 3), (70, .aload_n 0, 1), (71, .getfield 494, 3), (74, .bipush 61, 2), (76, .if_icmp .ne 8, 3), (79, .bipush 15, 2), (81, .goto 74, 3), (84, .aload_n 0, 1), (85, .getfield 494, 3), (88, .bipush 110, 2), (90, .if_icmp .ne 8, 3), (93, .bipush 16, 2), (95, .goto 60, 3), (98, .aload_n 0, 1), (99, .getfield 494, 3)]
set_option maxRecDepth 20000 in
theorem dn_342_0_1_ok : dn_342_0_1.all (fun q => decide (decode (xm_b n_342) q.1 = .ok (q.2.1, q.2.2))) = true := xa_g_ok (by decide +kernel)
def dn_342_0_2 : List (Nat × Instr × Nat) := [(102, .bipush 60, 2), (104, .if_icmp .ne 8, 3), (107, .bipush 17, 2), (109, .goto 46, 3), (112, .aload_n 0, 1), (113, .getfield 494, 3), (116, .bipush 108, 2), (118, .if_icmp .ne 8, 3), (121, .bipush 18, 2), (123, .goto 32, 3), (126, .aload_n 0, 1), (127, .getfield 494, 3), (130, .bipush 62, 2), (132, .if_icmp .ne 8, 3), (135, .bipush 19, 2), (137, .goto 18, 3), (140, .aload_n 0, 1), (141, .getfield 494, 3), (144, .bipush 103, 2), (146, .if_icmp .ne 8, 3), (149, .bipush 20, 2), (151, .goto 4, 3), (154, .iconst 0, 1), (155, .istore_n 1, 1), (156, .iload_n 1, 1)]
set_option maxRecDepth 20000 in
theorem dn_342_0_2_ok : dn_342_0_2.all (fun q => decide (decode (xm_b n_342) q.1 = .ok (q.2.1, q.2.2))) = true := xa_g_ok (by decide +kernel)
def dn_342_0_3 : List (Nat × Instr × Nat) := [(157, .ifCond .eq 18, 3), (160, .aload_n 0, 1), (161, .invokevirtual 536, 3), (164, .aload_n 0, 1), (165, .invokevirtual 580, 3), (168, .aload_n 0, 1), (169, .iload_n 1, 1), (170, .iconst 0, 1), (171, .invokevirtual 565, 3), (174, .pop, 1), (175, .return_, 1)]
set_option maxRecDepth 20000 in
theorem dn_342_0_3_ok : dn_342_0_3.all (fun q => decide (decode (xm_b n_342) q.1 = .ok (q.2.1, q.2.2))) = true := xa_g_ok (by decide +kernel)
def te_342_0 : Nat → eE := (e_T 20 (e_T 8 (e_T 1 (e_T 0 (e_L 0 (0, ei_load 0 2 1, 0, 0)) (e_L 1 (0, ei_getf eft elay 12 88 4, 0, 0))) (e_T 4 (e_L 4 (0, ei_if1 1 47 7, 0, 0)) (e_T 7 (e_L 7 (0, ei_load 0 2 8, 0, 0)) (e_L 8 (0, ei_push (0, 26) 10, 0, 0))))) (e_T 13 (e_T 10 (e_L 10 (2, e_nof, 332, 2)) (e_L 13 (0, ei_if1 0 47 16, 0, 0))) (e_T 16 (e_L 16 (0, ei_load 0 2 17, 0, 0)) (e_T 17 (e_L 17 (2, e_nof, 335, 1)) (e_L 20 (0, ei_load 0 2 21, 0, 0)))))) (e_T 29 (e_T 24 (e_T 21 (e_L 21 (2, e_nof, 327, 1)) (e_L 24 (0, ei_load 0 2 25, 0, 0))) (e_T 25 (e_L 25 (2, e_nof, 342, 1)) (e_T 28 (e_L 28 (0, ei_load 0 2 29, 0, 0)) (e_L 29 (0, ei_stk ef_dup 30, 0, 0))))) (e_T 34 (e_T 30 (e_L 30 (0, ei_getf eft elay 12 83 33, 0, 0)) (e_T 33 (e_L 33 (0, ei_push (0, 1) 34, 0, 0)) (e_L 34 (0, ei_bin eF_sub 35, 0, 0)))) (e_T 35 (e_L 35 (0, ei_putf eft elay 12 83 0 38, 0, 0)) (e_T 38 (e_L 38 (0, ei_load 0 2 39, 0, 0)) (e_L 39 (0, ei_push (0, 21) 41, 0, 0)))))))
set_option maxRecDepth 20000 in
set_option maxHeartbeats 4000000 in
theorem te_342_0_ok : ∀ pc, e_EOq eft cls elay eI n_342 pc (te_342_0 pc) :=
  (e_Tok2
  (e_Tok2
  (e_Tok2
  (e_Tok2
  (e_Lok (ld_aload_n_0 (x_dk dn_342_0_0_ok 0 rfl)))
  (e_Lok (lk_12_530g ho_342 (x_dk dn_342_0_0_ok 1 rfl))))
  (e_Tok2
  (e_Lok (e_st (I := eI) (er_ifne (off := 43) (tg := 47) (x_dk dn_342_0_0_ok 2 rfl) (by decide)) nx_if1))
  (e_Tok2
  (e_Lok (ld_aload_n_0 (x_dk dn_342_0_0_ok 3 rfl)))
  (e_Lok (ps_bipush_26 (x_dk dn_342_0_0_ok 4 rfl))))))
  (e_Tok2
  (e_Tok2
  (e_Lok (lk_12_562 ho_342 (x_dk dn_342_0_0_ok 5 rfl)))
  (e_Lok (e_st (I := eI) (er_ifeq (off := 34) (tg := 47) (x_dk dn_342_0_0_ok 6 rfl) (by decide)) nx_if1)))
  (e_Tok2
  (e_Lok (ld_aload_n_0 (x_dk dn_342_0_0_ok 7 rfl)))
  (e_Tok2
  (e_Lok (lk_12_578 ho_342 (x_dk dn_342_0_0_ok 8 rfl)))
  (e_Lok (ld_aload_n_0 (x_dk dn_342_0_0_ok 9 rfl)))))))
  (e_Tok2
  (e_Tok2
  (e_Tok2
  (e_Lok (lk_12_536 ho_342 (x_dk dn_342_0_0_ok 10 rfl)))
  (e_Lok (ld_aload_n_0 (x_dk dn_342_0_0_ok 11 rfl))))
  (e_Tok2
  (e_Lok (lk_12_572 ho_342 (x_dk dn_342_0_0_ok 12 rfl)))
  (e_Tok2
  (e_Lok (ld_aload_n_0 (x_dk dn_342_0_0_ok 13 rfl)))
  (e_Lok (e_st (I := eI) (er_dup (x_dk dn_342_0_0_ok 14 rfl)) (nx_stk bf_dup))))))
  (e_Tok2
  (e_Tok2
  (e_Lok (lk_12_542g ho_342 (x_dk dn_342_0_0_ok 15 rfl)))
  (e_Tok2
  (e_Lok (ps_iconst_1 (x_dk dn_342_0_0_ok 16 rfl)))
  (e_Lok (sm_isub (x_dk dn_342_0_0_ok 17 rfl)))))
  (e_Tok2
  (e_Lok (lk_12_542p ho_342 (x_dk dn_342_0_0_ok 18 rfl)))
  (e_Tok2
  (e_Lok (ld_aload_n_0 (x_dk dn_342_0_0_ok 19 rfl)))
  (e_Lok (ps_bipush_21 (x_dk dn_342_0_0_ok 20 rfl))))))))
def te_342_21 : Nat → eE := (e_T 59 (e_T 47 (e_T 42 (e_T 41 (e_L 41 (0, ei_push (0, 0) 42, 0, 0)) (e_L 42 (2, e_nof, 336, 3))) (e_T 45 (e_L 45 (0, ei_stk ef_pop 46, 0, 0)) (e_T 46 (e_L 46 (1, e_nof, 0, 0)) (e_L 47 (0, ei_load 0 2 48, 0, 0))))) (e_T 52 (e_T 48 (e_L 48 (2, e_nof, 343, 1)) (e_T 51 (e_L 51 (0, ei_load 0 2 52, 0, 0)) (e_L 52 (0, ei_getf eft elay 12 88 55, 0, 0)))) (e_T 55 (e_L 55 (0, ei_if1 1 66 58, 0, 0)) (e_T 58 (e_L 58 (0, ei_load 0 2 59, 0, 0)) (e_L 59 (0, ei_getf eft elay 12 84 62, 0, 0)))))) (e_T 70 (e_T 63 (e_T 62 (e_L 62 (0, ei_push (0, 3) 63, 0, 0)) (e_L 63 (0, ei_if2 0 70 66, 0, 0))) (e_T 66 (e_L 66 (0, ei_push (0, 0) 67, 0, 0)) (e_T 67 (e_L 67 (0, ei_goto 155, 0, 0)) (e_L 70 (0, ei_load 0 2 71, 0, 0))))) (e_T 76 (e_T 71 (e_L 71 (0, ei_getf eft elay 12 85 74, 0, 0)) (e_T 74 (e_L 74 (0, ei_push (0, 61) 76, 0, 0)) (e_L 76 (0, ei_if2 1 84 79, 0, 0)))) (e_T 79 (e_L 79 (0, ei_push (0, 15) 81, 0, 0)) (e_T 81 (e_L 81 (0, ei_goto 155, 0, 0)) (e_L 84 (0, ei_load 0 2 85, 0, 0)))))))
set_option maxRecDepth 20000 in
set_option maxHeartbeats 4000000 in
theorem te_342_21_ok : ∀ pc, e_EOq eft cls elay eI n_342 pc (te_342_21 pc) :=
  (e_Tok2
  (e_Tok2
  (e_Tok2
  (e_Tok2
  (e_Lok (ps_iconst_0 (x_dk dn_342_0_0_ok 21 rfl)))
  (e_Lok (lk_12_565 ho_342 (x_dk dn_342_0_0_ok 22 rfl))))
  (e_Tok2
  (e_Lok (e_st (I := eI) (er_pop (x_dk dn_342_0_0_ok 23 rfl)) (nx_stk bf_pop)))
  (e_Tok2
  (e_Lok (e_rt (I := eI) (k := 0) ⟨(x_dk dn_342_0_0_ok 24 rfl), rfl⟩))
  (e_Lok (ld_aload_n_0 (x_dk dn_342_0_1_ok 0 rfl))))))
  (e_Tok2
  (e_Tok2
  (e_Lok (lk_12_580 ho_342 (x_dk dn_342_0_1_ok 1 rfl)))
  (e_Tok2
  (e_Lok (ld_aload_n_0 (x_dk dn_342_0_1_ok 2 rfl)))
  (e_Lok (lk_12_530g ho_342 (x_dk dn_342_0_1_ok 3 rfl)))))
  (e_Tok2
  (e_Lok (e_st (I := eI) (er_ifne (off := 11) (tg := 66) (x_dk dn_342_0_1_ok 4 rfl) (by decide)) nx_if1))
  (e_Tok2
  (e_Lok (ld_aload_n_0 (x_dk dn_342_0_1_ok 5 rfl)))
  (e_Lok (lk_12_497g ho_342 (x_dk dn_342_0_1_ok 6 rfl)))))))
  (e_Tok2
  (e_Tok2
  (e_Tok2
  (e_Lok (ps_iconst_3 (x_dk dn_342_0_1_ok 7 rfl)))
  (e_Lok (e_st (I := eI) (er_icmpeq (off := 7) (tg := 70) (x_dk dn_342_0_1_ok 8 rfl) (by decide)) nx_if2)))
  (e_Tok2
  (e_Lok (ps_iconst_0 (x_dk dn_342_0_1_ok 9 rfl)))
  (e_Tok2
  (e_Lok (e_st (I := eI) (er_goto (off := 88) (tg := 155) (x_dk dn_342_0_1_ok 10 rfl) (by decide)) nx_goto))
  (e_Lok (ld_aload_n_0 (x_dk dn_342_0_1_ok 11 rfl))))))
  (e_Tok2
  (e_Tok2
  (e_Lok (lk_12_494g ho_342 (x_dk dn_342_0_1_ok 12 rfl)))
  (e_Tok2
  (e_Lok (ps_bipush_61 (x_dk dn_342_0_1_ok 13 rfl)))
  (e_Lok (e_st (I := eI) (er_icmpne (off := 8) (tg := 84) (x_dk dn_342_0_1_ok 14 rfl) (by decide)) nx_if2))))
  (e_Tok2
  (e_Lok (ps_bipush_15 (x_dk dn_342_0_1_ok 15 rfl)))
  (e_Tok2
  (e_Lok (e_st (I := eI) (er_goto (off := 74) (tg := 155) (x_dk dn_342_0_1_ok 16 rfl) (by decide)) nx_goto))
  (e_Lok (ld_aload_n_0 (x_dk dn_342_0_1_ok 17 rfl))))))))
def te_342_43 : Nat → eE := (e_T 107 (e_T 95 (e_T 88 (e_T 85 (e_L 85 (0, ei_getf eft elay 12 85 88, 0, 0)) (e_L 88 (0, ei_push (0, 110) 90, 0, 0))) (e_T 90 (e_L 90 (0, ei_if2 1 98 93, 0, 0)) (e_T 93 (e_L 93 (0, ei_push (0, 16) 95, 0, 0)) (e_L 95 (0, ei_goto 155, 0, 0))))) (e_T 99 (e_T 98 (e_L 98 (0, ei_load 0 2 99, 0, 0)) (e_L 99 (0, ei_getf eft elay 12 85 102, 0, 0))) (e_T 102 (e_L 102 (0, ei_push (0, 60) 104, 0, 0)) (e_T 104 (e_L 104 (0, ei_if2 1 112 107, 0, 0)) (e_L 107 (0, ei_push (0, 17) 109, 0, 0)))))) (e_T 118 (e_T 112 (e_T 109 (e_L 109 (0, ei_goto 155, 0, 0)) (e_L 112 (0, ei_load 0 2 113, 0, 0))) (e_T 113 (e_L 113 (0, ei_getf eft elay 12 85 116, 0, 0)) (e_T 116 (e_L 116 (0, ei_push (0, 108) 118, 0, 0)) (e_L 118 (0, ei_if2 1 126 121, 0, 0))))) (e_T 126 (e_T 121 (e_L 121 (0, ei_push (0, 18) 123, 0, 0)) (e_T 123 (e_L 123 (0, ei_goto 155, 0, 0)) (e_L 126 (0, ei_load 0 2 127, 0, 0)))) (e_T 127 (e_L 127 (0, ei_getf eft elay 12 85 130, 0, 0)) (e_T 130 (e_L 130 (0, ei_push (0, 62) 132, 0, 0)) (e_L 132 (0, ei_if2 1 140 135, 0, 0)))))))
set_option maxRecDepth 20000 in
set_option maxHeartbeats 4000000 in
theorem te_342_43_ok : ∀ pc, e_EOq eft cls elay eI n_342 pc (te_342_43 pc) :=
  (e_Tok2
  (e_Tok2
  (e_Tok2
  (e_Tok2
  (e_Lok (lk_12_494g ho_342 (x_dk dn_342_0_1_ok 18 rfl)))
  (e_Lok (ps_bipush_110 (x_dk dn_342_0_1_ok 19 rfl))))
  (e_Tok2
  (e_Lok (e_st (I := eI) (er_icmpne (off := 8) (tg := 98) (x_dk dn_342_0_1_ok 20 rfl) (by decide)) nx_if2))
  (e_Tok2
  (e_Lok (ps_bipush_16 (x_dk dn_342_0_1_ok 21 rfl)))
  (e_Lok (e_st (I := eI) (er_goto (off := 60) (tg := 155) (x_dk dn_342_0_1_ok 22 rfl) (by decide)) nx_goto)))))
  (e_Tok2
  (e_Tok2
  (e_Lok (ld_aload_n_0 (x_dk dn_342_0_1_ok 23 rfl)))
  (e_Lok (lk_12_494g ho_342 (x_dk dn_342_0_1_ok 24 rfl))))
  (e_Tok2
  (e_Lok (ps_bipush_60 (x_dk dn_342_0_2_ok 0 rfl)))
  (e_Tok2
  (e_Lok (e_st (I := eI) (er_icmpne (off := 8) (tg := 112) (x_dk dn_342_0_2_ok 1 rfl) (by decide)) nx_if2))
  (e_Lok (ps_bipush_17 (x_dk dn_342_0_2_ok 2 rfl)))))))
  (e_Tok2
  (e_Tok2
  (e_Tok2
  (e_Lok (e_st (I := eI) (er_goto (off := 46) (tg := 155) (x_dk dn_342_0_2_ok 3 rfl) (by decide)) nx_goto))
  (e_Lok (ld_aload_n_0 (x_dk dn_342_0_2_ok 4 rfl))))
  (e_Tok2
  (e_Lok (lk_12_494g ho_342 (x_dk dn_342_0_2_ok 5 rfl)))
  (e_Tok2
  (e_Lok (ps_bipush_108 (x_dk dn_342_0_2_ok 6 rfl)))
  (e_Lok (e_st (I := eI) (er_icmpne (off := 8) (tg := 126) (x_dk dn_342_0_2_ok 7 rfl) (by decide)) nx_if2)))))
  (e_Tok2
  (e_Tok2
  (e_Lok (ps_bipush_18 (x_dk dn_342_0_2_ok 8 rfl)))
  (e_Tok2
  (e_Lok (e_st (I := eI) (er_goto (off := 32) (tg := 155) (x_dk dn_342_0_2_ok 9 rfl) (by decide)) nx_goto))
  (e_Lok (ld_aload_n_0 (x_dk dn_342_0_2_ok 10 rfl)))))
  (e_Tok2
  (e_Lok (lk_12_494g ho_342 (x_dk dn_342_0_2_ok 11 rfl)))
  (e_Tok2
  (e_Lok (ps_bipush_62 (x_dk dn_342_0_2_ok 12 rfl)))
  (e_Lok (e_st (I := eI) (er_icmpne (off := 8) (tg := 140) (x_dk dn_342_0_2_ok 13 rfl) (by decide)) nx_if2)))))))
def te_342_64 : Nat → eE := (e_T 156 (e_T 144 (e_T 137 (e_T 135 (e_L 135 (0, ei_push (0, 19) 137, 0, 0)) (e_L 137 (0, ei_goto 155, 0, 0))) (e_T 140 (e_L 140 (0, ei_load 0 2 141, 0, 0)) (e_T 141 (e_L 141 (0, ei_getf eft elay 12 85 144, 0, 0)) (e_L 144 (0, ei_push (0, 103) 146, 0, 0))))) (e_T 151 (e_T 146 (e_L 146 (0, ei_if2 1 154 149, 0, 0)) (e_T 149 (e_L 149 (0, ei_push (0, 20) 151, 0, 0)) (e_L 151 (0, ei_goto 155, 0, 0)))) (e_T 154 (e_L 154 (0, ei_push (0, 0) 155, 0, 0)) (e_T 155 (e_L 155 (0, ei_stor 1 0 156, 0, 0)) (e_L 156 (0, ei_load 1 0 157, 0, 0)))))) (e_T 165 (e_T 160 (e_T 157 (e_L 157 (0, ei_if1 0 175 160, 0, 0)) (e_L 160 (0, ei_load 0 2 161, 0, 0))) (e_T 161 (e_L 161 (2, e_nof, 327, 1)) (e_T 164 (e_L 164 (0, ei_load 0 2 165, 0, 0)) (e_L 165 (2, e_nof, 343, 1))))) (e_T 170 (e_T 168 (e_L 168 (0, ei_load 0 2 169, 0, 0)) (e_T 169 (e_L 169 (0, ei_load 1 0 170, 0, 0)) (e_L 170 (0, ei_push (0, 0) 171, 0, 0)))) (e_T 171 (e_L 171 (2, e_nof, 336, 3)) (e_T 174 (e_L 174 (0, ei_stk ef_pop 175, 0, 0)) (e_L 175 (1, e_nof, 0, 0)))))))
set_option maxRecDepth 20000 in
set_option maxHeartbeats 4000000 in
theorem te_342_64_ok : ∀ pc, e_EOq eft cls elay eI n_342 pc (te_342_64 pc) :=
  (e_Tok2
  (e_Tok2
  (e_Tok2
  (e_Tok2
  (e_Lok (ps_bipush_19 (x_dk dn_342_0_2_ok 14 rfl)))
  (e_Lok (e_st (I := eI) (er_goto (off := 18) (tg := 155) (x_dk dn_342_0_2_ok 15 rfl) (by decide)) nx_goto)))
  (e_Tok2
  (e_Lok (ld_aload_n_0 (x_dk dn_342_0_2_ok 16 rfl)))
  (e_Tok2
  (e_Lok (lk_12_494g ho_342 (x_dk dn_342_0_2_ok 17 rfl)))
  (e_Lok (ps_bipush_103 (x_dk dn_342_0_2_ok 18 rfl))))))
  (e_Tok2
  (e_Tok2
  (e_Lok (e_st (I := eI) (er_icmpne (off := 8) (tg := 154) (x_dk dn_342_0_2_ok 19 rfl) (by decide)) nx_if2))
  (e_Tok2
  (e_Lok (ps_bipush_20 (x_dk dn_342_0_2_ok 20 rfl)))
  (e_Lok (e_st (I := eI) (er_goto (off := 4) (tg := 155) (x_dk dn_342_0_2_ok 21 rfl) (by decide)) nx_goto))))
  (e_Tok2
  (e_Lok (ps_iconst_0 (x_dk dn_342_0_2_ok 22 rfl)))
  (e_Tok2
  (e_Lok (e_st (I := eI) (er_istore_n (i := 1) (x_dk dn_342_0_2_ok 23 rfl) (by decide +kernel)) nx_stor))
  (e_Lok (ld_iload_n_1 (x_dk dn_342_0_2_ok 24 rfl)))))))
  (e_Tok2
  (e_Tok2
  (e_Tok2
  (e_Lok (e_st (I := eI) (er_ifeq (off := 18) (tg := 175) (x_dk dn_342_0_3_ok 0 rfl) (by decide)) nx_if1))
  (e_Lok (ld_aload_n_0 (x_dk dn_342_0_3_ok 1 rfl))))
  (e_Tok2
  (e_Lok (lk_12_536 ho_342 (x_dk dn_342_0_3_ok 2 rfl)))
  (e_Tok2
  (e_Lok (ld_aload_n_0 (x_dk dn_342_0_3_ok 3 rfl)))
  (e_Lok (lk_12_580 ho_342 (x_dk dn_342_0_3_ok 4 rfl))))))
  (e_Tok2
  (e_Tok2
  (e_Lok (ld_aload_n_0 (x_dk dn_342_0_3_ok 5 rfl)))
  (e_Tok2
  (e_Lok (ld_iload_n_1 (x_dk dn_342_0_3_ok 6 rfl)))
  (e_Lok (ps_iconst_0 (x_dk dn_342_0_3_ok 7 rfl)))))
  (e_Tok2
  (e_Lok (lk_12_565 ho_342 (x_dk dn_342_0_3_ok 8 rfl)))
  (e_Tok2
  (e_Lok (e_st (I := eI) (er_pop (x_dk dn_342_0_3_ok 9 rfl)) (nx_stk bf_pop)))
  (e_Lok (e_rt (I := eI) (k := 0) ⟨(x_dk dn_342_0_3_ok 10 rfl), rfl⟩)))))))
def te_342 : Nat → eE := (e_T 84 (e_T 39 te_342_0 te_342_21) (e_T 132 te_342_43 te_342_64))
theorem te_342_ok : ∀ pc, e_EOq eft cls elay eI n_342 pc (te_342 pc) := (e_Tok2 ((e_Tok2 (te_342_0_ok) (te_342_21_ok))) ((e_Tok2 (te_342_43_ok) (te_342_64_ok))))
theorem ho_343 : (xm_y n_343).cls = "RobotCellHouseModel" := rfl
def dn_343_0_0 : List (Nat × Instr × Nat) := [(0, .aload_n 0, 1), (1, .invokevirtual 583, 3), (4, .aload_n 0, 1), (5, .getfield 530, 3), (8, .ifCond .ne 56, 3), (11, .aload_n 0, 1), (12, .bipush 43, 2), (14, .invokevirtual 586, 3), (17, .ifCond .ne 12, 3), (20, .aload_n 0, 1), (21, .bipush 45, 2), (23, .invokevirtual 586, 3), (26, .ifCond .eq 38, 3), (29, .aload_n 0, 1), (30, .getfield 494, 3), (33, .bipush 43, 2), (35, .if_icmp .ne 8, 3), (38, .bipush 10, 2), (40, .goto 5, 3), (43, .bipush 11, 2), (45, .istore_n 1, 1), (46, .aload_n 0, 1), (47, .invokevirtual 536, 3), (50, .aload_n 0, 1), (51, .invokevirtual 583, 3)]
set_option maxRecDepth 20000 in
theorem dn_343_0_0_ok : dn_343_0_0.all (fun q => decide (decode (xm_b n_343) q.1 = .ok (q.2.1, q.2.2))) = true := xa_g_ok (by decide +kernel)
def dn_343_0_1 : List (Nat × Instr × Nat) := [(54, .aload_n 0, 1), (55, .iload_n 1, 1), (56, .iconst 0, 1), (57, .invokevirtual 565, 3), (60, .pop, 1), (61, .goto (-57), 3), (64, .return_, 1)]
set_option maxRecDepth 20000 in
theorem dn_343_0_1_ok : dn_343_0_1.all (fun q => decide (decode (xm_b n_343) q.1 = .ok (q.2.1, q.2.2))) = true := xa_g_ok (by decide +kernel)
def te_343_0 : Nat → eE := (e_T 33 (e_T 14 (e_T 5 (e_T 1 (e_T 0 (e_L 0 (0, ei_load 0 2 1, 0, 0)) (e_L 1 (2, e_nof, 344, 1))) (e_T 4 (e_L 4 (0, ei_load 0 2 5, 0, 0)) (e_L 5 (0, ei_getf eft elay 12 88 8, 0, 0)))) (e_T 11 (e_T 8 (e_L 8 (0, ei_if1 1 64 11, 0, 0)) (e_L 11 (0, ei_load 0 2 12, 0, 0))) (e_T 12 (e_L 12 (0, ei_push (0, 43) 14, 0, 0)) (e_L 14 (2, e_nof, 331, 2))))) (e_T 23 (e_T 20 (e_T 17 (e_L 17 (0, ei_if1 1 29 20, 0, 0)) (e_L 20 (0, ei_load 0 2 21, 0, 0))) (e_T 21 (e_L 21 (0, ei_push (0, 45) 23, 0, 0)) (e_L 23 (2, e_nof, 331, 2)))) (e_T 29 (e_T 26 (e_L 26 (0, ei_if1 0 64 29, 0, 0)) (e_L 29 (0, ei_load 0 2 30, 0, 0))) (e_T 30 (e_L 30 (0, ei_getf eft elay 12 85 33, 0, 0)) (e_L 33 (0, ei_push (0, 43) 35, 0, 0)))))) (e_T 50 (e_T 43 (e_T 38 (e_T 35 (e_L 35 (0, ei_if2 1 43 38, 0, 0)) (e_L 38 (0, ei_push (0, 10) 40, 0, 0))) (e_T 40 (e_L 40 (0, ei_goto 45, 0, 0)) (e_L 43 (0, ei_push (0, 11) 45, 0, 0)))) (e_T 46 (e_T 45 (e_L 45 (0, ei_stor 1 0 46, 0, 0)) (e_L 46 (0, ei_load 0 2 47, 0, 0))) (e_T 47 (e_L 47 (2, e_nof, 327, 1)) (e_L 50 (0, ei_load 0 2 51, 0, 0))))) (e_T 56 (e_T 54 (e_T 51 (e_L 51 (2, e_nof, 344, 1)) (e_L 54 (0, ei_load 0 2 55, 0, 0))) (e_T 55 (e_L 55 (0, ei_load 1 0 56, 0, 0)) (e_L 56 (0, ei_push (0, 0) 57, 0, 0)))) (e_T 60 (e_T 57 (e_L 57 (2, e_nof, 336, 3)) (e_L 60 (0, ei_stk ef_pop 61, 0, 0))) (e_T 61 (e_L 61 (0, ei_goto 4, 0, 0)) (e_L 64 (1, e_nof, 0, 0)))))))
set_option maxRecDepth 20000 in
set_option maxHeartbeats 4000000 in
theorem te_343_0_ok : ∀ pc, e_EOq eft cls elay eI n_343 pc (te_343_0 pc) :=
  (e_Tok2
  (e_Tok2
  (e_Tok2
  (e_Tok2
  (e_Tok2
  (e_Lok (ld_aload_n_0 (x_dk dn_343_0_0_ok 0 rfl)))
  (e_Lok (lk_12_583 ho_343 (x_dk dn_343_0_0_ok 1 rfl))))
  (e_Tok2
  (e_Lok (ld_aload_n_0 (x_dk dn_343_0_0_ok 2 rfl)))
  (e_Lok (lk_12_530g ho_343 (x_dk dn_343_0_0_ok 3 rfl)))))
  (e_Tok2
  (e_Tok2
  (e_Lok (e_st (I := eI) (er_ifne (off := 56) (tg := 64) (x_dk dn_343_0_0_ok 4 rfl) (by decide)) nx_if1))
  (e_Lok (ld_aload_n_0 (x_dk dn_343_0_0_ok 5 rfl))))
  (e_Tok2
  (e_Lok (ps_bipush_43 (x_dk dn_343_0_0_ok 6 rfl)))
  (e_Lok (lk_12_586 ho_343 (x_dk dn_343_0_0_ok 7 rfl))))))
  (e_Tok2
  (e_Tok2
  (e_Tok2
  (e_Lok (e_st (I := eI) (er_ifne (off := 12) (tg := 29) (x_dk dn_343_0_0_ok 8 rfl) (by decide)) nx_if1))
  (e_Lok (ld_aload_n_0 (x_dk dn_343_0_0_ok 9 rfl))))
  (e_Tok2
  (e_Lok (ps_bipush_45 (x_dk dn_343_0_0_ok 10 rfl)))
  (e_Lok (lk_12_586 ho_343 (x_dk dn_343_0_0_ok 11 rfl)))))
  (e_Tok2
  (e_Tok2
  (e_Lok (e_st (I := eI) (er_ifeq (off := 38) (tg := 64) (x_dk dn_343_0_0_ok 12 rfl) (by decide)) nx_if1))
  (e_Lok (ld_aload_n_0 (x_dk dn_343_0_0_ok 13 rfl))))
  (e_Tok2
  (e_Lok (lk_12_494g ho_343 (x_dk dn_343_0_0_ok 14 rfl)))
  (e_Lok (ps_bipush_43 (x_dk dn_343_0_0_ok 15 rfl)))))))
  (e_Tok2
  (e_Tok2
  (e_Tok2
  (e_Tok2
  (e_Lok (e_st (I := eI) (er_icmpne (off := 8) (tg := 43) (x_dk dn_343_0_0_ok 16 rfl) (by decide)) nx_if2))
  (e_Lok (ps_bipush_10 (x_dk dn_343_0_0_ok 17 rfl))))
  (e_Tok2
  (e_Lok (e_st (I := eI) (er_goto (off := 5) (tg := 45) (x_dk dn_343_0_0_ok 18 rfl) (by decide)) nx_goto))
  (e_Lok (ps_bipush_11 (x_dk dn_343_0_0_ok 19 rfl)))))
  (e_Tok2
  (e_Tok2
  (e_Lok (e_st (I := eI) (er_istore_n (i := 1) (x_dk dn_343_0_0_ok 20 rfl) (by decide +kernel)) nx_stor))
  (e_Lok (ld_aload_n_0 (x_dk dn_343_0_0_ok 21 rfl))))
  (e_Tok2
  (e_Lok (lk_12_536 ho_343 (x_dk dn_343_0_0_ok 22 rfl)))
  (e_Lok (ld_aload_n_0 (x_dk dn_343_0_0_ok 23 rfl))))))
  (e_Tok2
  (e_Tok2
  (e_Tok2
  (e_Lok (lk_12_583 ho_343 (x_dk dn_343_0_0_ok 24 rfl)))
  (e_Lok (ld_aload_n_0 (x_dk dn_343_0_1_ok 0 rfl))))
  (e_Tok2
  (e_Lok (ld_iload_n_1 (x_dk dn_343_0_1_ok 1 rfl)))
  (e_Lok (ps_iconst_0 (x_dk dn_343_0_1_ok 2 rfl)))))
  (e_Tok2
  (e_Tok2
  (e_Lok (lk_12_565 ho_343 (x_dk dn_343_0_1_ok 3 rfl)))
  (e_Lok (e_st (I := eI) (er_pop (x_dk dn_343_0_1_ok 4 rfl)) (nx_stk bf_pop))))
  (e_Tok2
  (e_Lok (e_st (I := eI) (er_goto (off := (-57)) (tg := 4) (x_dk dn_343_0_1_ok 5 rfl) (by decide)) nx_goto))
  (e_Lok (e_rt (I := eI) (k := 0) ⟨(x_dk dn_343_0_1_ok 6 rfl), rfl⟩)))))))
def te_343 : Nat → eE := te_343_0
theorem te_343_ok : ∀ pc, e_EOq eft cls elay eI n_343 pc (te_343 pc) := te_343_0_ok
theorem ho_344 : (xm_y n_344).cls = "RobotCellHouseModel" := rfl
def dn_344_0_0 : List (Nat × Instr × Nat) := [(0, .aload_n 0, 1), (1, .invokevirtual 589, 3), (4, .aload_n 0, 1), (5, .getfield 530, 3), (8, .ifCond .ne 79, 3), (11, .aload_n 0, 1), (12, .bipush 42, 2), (14, .invokevirtual 586, 3), (17, .ifCond .ne 21, 3), (20, .aload_n 0, 1), (21, .bipush 47, 2), (23, .invokevirtual 586, 3), (26, .ifCond .ne 12, 3), (29, .aload_n 0, 1), (30, .bipush 37, 2), (32, .invokevirtual 586, 3), (35, .ifCond .eq 52, 3), (38, .aload_n 0, 1), (39, .getfield 494, 3), (42, .bipush 42, 2), (44, .if_icmp .ne 8, 3), (47, .bipush 12, 2), (49, .goto 19, 3), (52, .aload_n 0, 1), (53, .getfield 494, 3)]
set_option maxRecDepth 20000 in
theorem dn_344_0_0_ok : dn_344_0_0.all (fun q => decide (decode (xm_b n_344) q.1 = .ok (q.2.1, q.2.2))) = true := xa_g_ok (by decide +kernel)
def dn_344_0_1 : List (Nat × Instr × Nat) := [(56, .bipush 47, 2), (58, .if_icmp .ne 8, 3), (61, .bipush 13, 2), (63, .goto 5, 3), (66, .bipush 14, 2), (68, .istore_n 1, 1), (69, .aload_n 0, 1), (70, .invokevirtual 536, 3), (73, .aload_n 0, 1), (74, .invokevirtual 589, 3), (77, .aload_n 0, 1), (78, .iload_n 1, 1), (79, .iconst 0, 1), (80, .invokevirtual 565, 3), (83, .pop, 1), (84, .goto (-80), 3), (87, .return_, 1)]
set_option maxRecDepth 20000 in
theorem dn_344_0_1_ok : dn_344_0_1.all (fun q => decide (decode (xm_b n_344) q.1 = .ok (q.2.1, q.2.2))) = true := xa_g_ok (by decide +kernel)
def te_344_0 : Nat → eE := (e_T 20 (e_T 8 (e_T 1 (e_T 0 (e_L 0 (0, ei_load 0 2 1, 0, 0)) (e_L 1 (2, e_nof, 346, 1))) (e_T 4 (e_L 4 (0, ei_load 0 2 5, 0, 0)) (e_T 5 (e_L 5 (0, ei_getf eft elay 12 88 8, 0, 0)) (e_L 8 (0, ei_if1 1 87 11, 0, 0))))) (e_T 12 (e_T 11 (e_L 11 (0, ei_load 0 2 12, 0, 0)) (e_L 12 (0, ei_push (0, 42) 14, 0, 0))) (e_T 14 (e_L 14 (2, e_nof, 331, 2)) (e_T 17 (e_L 17 (0, ei_if1 1 38 20, 0, 0)) (e_L 20 (0, ei_load 0 2 21, 0, 0)))))) (e_T 30 (e_T 23 (e_T 21 (e_L 21 (0, ei_push (0, 47) 23, 0, 0)) (e_L 23 (2, e_nof, 331, 2))) (e_T 26 (e_L 26 (0, ei_if1 1 38 29, 0, 0)) (e_T 29 (e_L 29 (0, ei_load 0 2 30, 0, 0)) (e_L 30 (0, ei_push (0, 37) 32, 0, 0))))) (e_T 38 (e_T 32 (e_L 32 (2, e_nof, 331, 2)) (e_T 35 (e_L 35 (0, ei_if1 0 87 38, 0, 0)) (e_L 38 (0, ei_load 0 2 39, 0, 0)))) (e_T 39 (e_L 39 (0, ei_getf eft elay 12 85 42, 0, 0)) (e_T 42 (e_L 42 (0, ei_push (0, 42) 44, 0, 0)) (e_L 44 (0, ei_if2 1 52 47, 0, 0)))))))
set_option maxRecDepth 20000 in
set_option maxHeartbeats 4000000 in
theorem te_344_0_ok : ∀ pc, e_EOq eft cls elay eI n_344 pc (te_344_0 pc) :=
  (e_Tok2
  (e_Tok2
  (e_Tok2
  (e_Tok2
  (e_Lok (ld_aload_n_0 (x_dk dn_344_0_0_ok 0 rfl)))
  (e_Lok (lk_12_589 ho_344 (x_dk dn_344_0_0_ok 1 rfl))))
  (e_Tok2
  (e_Lok (ld_aload_n_0 (x_dk dn_344_0_0_ok 2 rfl)))
  (e_Tok2
  (e_Lok (lk_12_530g ho_344 (x_dk dn_344_0_0_ok 3 rfl)))
  (e_Lok (e_st (I := eI) (er_ifne (off := 79) (tg := 87) (x_dk dn_344_0_0_ok 4 rfl) (by decide)) nx_if1)))))
  (e_Tok2
  (e_Tok2
  (e_Lok (ld_aload_n_0 (x_dk dn_344_0_0_ok 5 rfl)))
  (e_Lok (ps_bipush_42 (x_dk dn_344_0_0_ok 6 rfl))))
  (e_Tok2
  (e_Lok (lk_12_586 ho_344 (x_dk dn_344_0_0_ok 7 rfl)))
  (e_Tok2
  (e_Lok (e_st (I := eI) (er_ifne (off := 21) (tg := 38) (x_dk dn_344_0_0_ok 8 rfl) (by decide)) nx_if1))
  (e_Lok (ld_aload_n_0 (x_dk dn_344_0_0_ok 9 rfl)))))))
  (e_Tok2
  (e_Tok2
  (e_Tok2
  (e_Lok (ps_bipush_47 (x_dk dn_344_0_0_ok 10 rfl)))
  (e_Lok (lk_12_586 ho_344 (x_dk dn_344_0_0_ok 11 rfl))))
  (e_Tok2
  (e_Lok (e_st (I := eI) (er_ifne (off := 12) (tg := 38) (x_dk dn_344_0_0_ok 12 rfl) (by decide)) nx_if1))
  (e_Tok2
  (e_Lok (ld_aload_n_0 (x_dk dn_344_0_0_ok 13 rfl)))
  (e_Lok (ps_bipush_37 (x_dk dn_344_0_0_ok 14 rfl))))))
  (e_Tok2
  (e_Tok2
  (e_Lok (lk_12_586 ho_344 (x_dk dn_344_0_0_ok 15 rfl)))
  (e_Tok2
  (e_Lok (e_st (I := eI) (er_ifeq (off := 52) (tg := 87) (x_dk dn_344_0_0_ok 16 rfl) (by decide)) nx_if1))
  (e_Lok (ld_aload_n_0 (x_dk dn_344_0_0_ok 17 rfl)))))
  (e_Tok2
  (e_Lok (lk_12_494g ho_344 (x_dk dn_344_0_0_ok 18 rfl)))
  (e_Tok2
  (e_Lok (ps_bipush_42 (x_dk dn_344_0_0_ok 19 rfl)))
  (e_Lok (e_st (I := eI) (er_icmpne (off := 8) (tg := 52) (x_dk dn_344_0_0_ok 20 rfl) (by decide)) nx_if2)))))))
def te_344_21 : Nat → eE := (e_T 68 (e_T 56 (e_T 49 (e_T 47 (e_L 47 (0, ei_push (0, 12) 49, 0, 0)) (e_L 49 (0, ei_goto 68, 0, 0))) (e_T 52 (e_L 52 (0, ei_load 0 2 53, 0, 0)) (e_T 53 (e_L 53 (0, ei_getf eft elay 12 85 56, 0, 0)) (e_L 56 (0, ei_push (0, 47) 58, 0, 0))))) (e_T 61 (e_T 58 (e_L 58 (0, ei_if2 1 66 61, 0, 0)) (e_L 61 (0, ei_push (0, 13) 63, 0, 0))) (e_T 63 (e_L 63 (0, ei_goto 68, 0, 0)) (e_T 66 (e_L 66 (0, ei_push (0, 14) 68, 0, 0)) (e_L 68 (0, ei_stor 1 0 69, 0, 0)))))) (e_T 77 (e_T 70 (e_T 69 (e_L 69 (0, ei_load 0 2 70, 0, 0)) (e_L 70 (2, e_nof, 327, 1))) (e_T 73 (e_L 73 (0, ei_load 0 2 74, 0, 0)) (e_T 74 (e_L 74 (2, e_nof, 346, 1)) (e_L 77 (0, ei_load 0 2 78, 0, 0))))) (e_T 80 (e_T 78 (e_L 78 (0, ei_load 1 0 79, 0, 0)) (e_T 79 (e_L 79 (0, ei_push (0, 0) 80, 0, 0)) (e_L 80 (2, e_nof, 336, 3)))) (e_T 83 (e_L 83 (0, ei_stk ef_pop 84, 0, 0)) (e_T 84 (e_L 84 (0, ei_goto 4, 0, 0)) (e_L 87 (1, e_nof, 0, 0)))))))
set_option maxRecDepth 20000 in
set_option maxHeartbeats 4000000 in
theorem te_344_21_ok : ∀ pc, e_EOq eft cls elay eI n_344 pc (te_344_21 pc) :=
  (e_Tok2
  (e_Tok2
  (e_Tok2
  (e_Tok2
  (e_Lok (ps_bipush_12 (x_dk dn_344_0_0_ok 21 rfl)))
  (e_Lok (e_st (I := eI) (er_goto (off := 19) (tg := 68) (x_dk dn_344_0_0_ok 22 rfl) (by decide)) nx_goto)))
  (e_Tok2
  (e_Lok (ld_aload_n_0 (x_dk dn_344_0_0_ok 23 rfl)))
  (e_Tok2
  (e_Lok (lk_12_494g ho_344 (x_dk dn_344_0_0_ok 24 rfl)))
  (e_Lok (ps_bipush_47 (x_dk dn_344_0_1_ok 0 rfl))))))
  (e_Tok2
  (e_Tok2
  (e_Lok (e_st (I := eI) (er_icmpne (off := 8) (tg := 66) (x_dk dn_344_0_1_ok 1 rfl) (by decide)) nx_if2))
  (e_Lok (ps_bipush_13 (x_dk dn_344_0_1_ok 2 rfl))))
  (e_Tok2
  (e_Lok (e_st (I := eI) (er_goto (off := 5) (tg := 68) (x_dk dn_344_0_1_ok 3 rfl) (by decide)) nx_goto))
  (e_Tok2
  (e_Lok (ps_bipush_14 (x_dk dn_344_0_1_ok 4 rfl)))
  (e_Lok (e_st (I := eI) (er_istore_n (i := 1) (x_dk dn_344_0_1_ok 5 rfl) (by decide +kernel)) nx_stor))))))
  (e_Tok2
  (e_Tok2
  (e_Tok2
  (e_Lok (ld_aload_n_0 (x_dk dn_344_0_1_ok 6 rfl)))
  (e_Lok (lk_12_536 ho_344 (x_dk dn_344_0_1_ok 7 rfl))))
  (e_Tok2
  (e_Lok (ld_aload_n_0 (x_dk dn_344_0_1_ok 8 rfl)))
  (e_Tok2
  (e_Lok (lk_12_589 ho_344 (x_dk dn_344_0_1_ok 9 rfl)))
  (e_Lok (ld_aload_n_0 (x_dk dn_344_0_1_ok 10 rfl))))))
  (e_Tok2
  (e_Tok2
  (e_Lok (ld_iload_n_1 (x_dk dn_344_0_1_ok 11 rfl)))
  (e_Tok2
  (e_Lok (ps_iconst_0 (x_dk dn_344_0_1_ok 12 rfl)))
  (e_Lok (lk_12_565 ho_344 (x_dk dn_344_0_1_ok 13 rfl)))))
  (e_Tok2
  (e_Lok (e_st (I := eI) (er_pop (x_dk dn_344_0_1_ok 14 rfl)) (nx_stk bf_pop)))
  (e_Tok2
  (e_Lok (e_st (I := eI) (er_goto (off := (-80)) (tg := 4) (x_dk dn_344_0_1_ok 15 rfl) (by decide)) nx_goto))
  (e_Lok (e_rt (I := eI) (k := 0) ⟨(x_dk dn_344_0_1_ok 16 rfl), rfl⟩)))))))
def te_344 : Nat → eE := (e_T 44 te_344_0 te_344_21)
theorem te_344_ok : ∀ pc, e_EOq eft cls elay eI n_344 pc (te_344 pc) := (e_Tok2 (te_344_0_ok) (te_344_21_ok))
theorem ho_345 : (xm_y n_345).cls = "RobotCellHouseModel" := rfl
def dn_345_0_0 : List (Nat × Instr × Nat) := [(0, .aload_n 0, 1), (1, .getfield 530, 3), (4, .ifCond .ne 16, 3), (7, .aload_n 0, 1), (8, .bipush 40, 2), (10, .invokevirtual 586, 3), (13, .ifCond .eq 7, 3), (16, .aload_n 0, 1), (17, .invokevirtual 578, 3), (20, .aload_n 0, 1), (21, .aload_n 0, 1), (22, .bipush 40, 2), (24, .invokevirtual 586, 3), (27, .invokevirtual 555, 3), (30, .aload_n 0, 1), (31, .invokevirtual 592, 3), (34, .aload_n 0, 1), (35, .aload_n 0, 1), (36, .bipush 41, 2), (38, .invokevirtual 586, 3), (41, .invokevirtual 555, 3), (44, .aload_n 0, 1), (45, .dup, 1), (46, .getfield 542, 3), (49, .iconst 1, 1)]
set_option maxRecDepth 20000 in
theorem dn_345_0_0_ok : dn_345_0_0.all (fun q => decide (decode (xm_b n_345) q.1 = .ok (q.2.1, q.2.2))) = true := xa_g_ok (by decide +kernel)
def dn_345_0_1 : List (Nat × Instr × Nat) := [(50, .isub, 1), (51, .putfield 542, 3), (54, .return_, 1)]
set_option maxRecDepth 20000 in
theorem dn_345_0_1_ok : dn_345_0_1.all (fun q => decide (decode (xm_b n_345) q.1 = .ok (q.2.1, q.2.2))) = true := xa_g_ok (by decide +kernel)
def te_345_0 : Nat → eE := (e_T 27 (e_T 13 (e_T 4 (e_T 0 (e_L 0 (0, ei_load 0 2 1, 0, 0)) (e_T 1 (e_L 1 (0, ei_getf eft elay 12 88 4, 0, 0)) (e_L 4 (0, ei_if1 1 20 7, 0, 0)))) (e_T 8 (e_T 7 (e_L 7 (0, ei_load 0 2 8, 0, 0)) (e_L 8 (0, ei_push (0, 40) 10, 0, 0))) (e_T 10 (e_L 10 (2, e_nof, 331, 2)) (e_L 13 (0, ei_if1 0 20 16, 0, 0))))) (e_T 20 (e_T 16 (e_L 16 (0, ei_load 0 2 17, 0, 0)) (e_T 17 (e_L 17 (2, e_nof, 335, 1)) (e_L 20 (0, ei_load 0 2 21, 0, 0)))) (e_T 22 (e_T 21 (e_L 21 (0, ei_load 0 2 22, 0, 0)) (e_L 22 (0, ei_push (0, 40) 24, 0, 0))) (e_T 24 (e_L 24 (2, e_nof, 331, 2)) (e_L 27 (2, e_nof, 334, 2)))))) (e_T 41 (e_T 34 (e_T 30 (e_L 30 (0, ei_load 0 2 31, 0, 0)) (e_T 31 (e_L 31 (2, e_nof, 339, 1)) (e_L 34 (0, ei_load 0 2 35, 0, 0)))) (e_T 36 (e_T 35 (e_L 35 (0, ei_load 0 2 36, 0, 0)) (e_L 36 (0, ei_push (0, 41) 38, 0, 0))) (e_T 38 (e_L 38 (2, e_nof, 331, 2)) (e_L 41 (2, e_nof, 334, 2))))) (e_T 46 (e_T 44 (e_L 44 (0, ei_load 0 2 45, 0, 0)) (e_T 45 (e_L 45 (0, ei_stk ef_dup 46, 0, 0)) (e_L 46 (0, ei_getf eft elay 12 83 49, 0, 0)))) (e_T 50 (e_T 49 (e_L 49 (0, ei_push (0, 1) 50, 0, 0)) (e_L 50 (0, ei_bin eF_sub 51, 0, 0))) (e_T 51 (e_L 51 (0, ei_putf eft elay 12 83 0 54, 0, 0)) (e_L 54 (1, e_nof, 0, 0)))))))
set_option maxRecDepth 20000 in
set_option maxHeartbeats 4000000 in
theorem te_345_0_ok : ∀ pc, e_EOq eft cls elay eI n_345 pc (te_345_0 pc) :=
  (e_Tok2
  (e_Tok2
  (e_Tok2
  (e_Tok2
  (e_Lok (ld_aload_n_0 (x_dk dn_345_0_0_ok 0 rfl)))
  (e_Tok2
  (e_Lok (lk_12_530g ho_345 (x_dk dn_345_0_0_ok 1 rfl)))
  (e_Lok (e_st (I := eI) (er_ifne (off := 16) (tg := 20) (x_dk dn_345_0_0_ok 2 rfl) (by decide)) nx_if1))))
  (e_Tok2
  (e_Tok2
  (e_Lok (ld_aload_n_0 (x_dk dn_345_0_0_ok 3 rfl)))
  (e_Lok (ps_bipush_40 (x_dk dn_345_0_0_ok 4 rfl))))
  (e_Tok2
  (e_Lok (lk_12_586 ho_345 (x_dk dn_345_0_0_ok 5 rfl)))
  (e_Lok (e_st (I := eI) (er_ifeq (off := 7) (tg := 20) (x_dk dn_345_0_0_ok 6 rfl) (by decide)) nx_if1)))))
  (e_Tok2
  (e_Tok2
  (e_Lok (ld_aload_n_0 (x_dk dn_345_0_0_ok 7 rfl)))
  (e_Tok2
  (e_Lok (lk_12_578 ho_345 (x_dk dn_345_0_0_ok 8 rfl)))
  (e_Lok (ld_aload_n_0 (x_dk dn_345_0_0_ok 9 rfl)))))
  (e_Tok2
  (e_Tok2
  (e_Lok (ld_aload_n_0 (x_dk dn_345_0_0_ok 10 rfl)))
  (e_Lok (ps_bipush_40 (x_dk dn_345_0_0_ok 11 rfl))))
  (e_Tok2
  (e_Lok (lk_12_586 ho_345 (x_dk dn_345_0_0_ok 12 rfl)))
  (e_Lok (lk_12_555 ho_345 (x_dk dn_345_0_0_ok 13 rfl)))))))
  (e_Tok2
  (e_Tok2
  (e_Tok2
  (e_Lok (ld_aload_n_0 (x_dk dn_345_0_0_ok 14 rfl)))
  (e_Tok2
  (e_Lok (lk_12_592 ho_345 (x_dk dn_345_0_0_ok 15 rfl)))
  (e_Lok (ld_aload_n_0 (x_dk dn_345_0_0_ok 16 rfl)))))
  (e_Tok2
  (e_Tok2
  (e_Lok (ld_aload_n_0 (x_dk dn_345_0_0_ok 17 rfl)))
  (e_Lok (ps_bipush_41 (x_dk dn_345_0_0_ok 18 rfl))))
  (e_Tok2
  (e_Lok (lk_12_586 ho_345 (x_dk dn_345_0_0_ok 19 rfl)))
  (e_Lok (lk_12_555 ho_345 (x_dk dn_345_0_0_ok 20 rfl))))))
  (e_Tok2
  (e_Tok2
  (e_Lok (ld_aload_n_0 (x_dk dn_345_0_0_ok 21 rfl)))
  (e_Tok2
  (e_Lok (e_st (I := eI) (er_dup (x_dk dn_345_0_0_ok 22 rfl)) (nx_stk bf_dup)))
  (e_Lok (lk_12_542g ho_345 (x_dk dn_345_0_0_ok 23 rfl)))))
  (e_Tok2
  (e_Tok2
  (e_Lok (ps_iconst_1 (x_dk dn_345_0_0_ok 24 rfl)))
  (e_Lok (sm_isub (x_dk dn_345_0_1_ok 0 rfl))))
  (e_Tok2
  (e_Lok (lk_12_542p ho_345 (x_dk dn_345_0_1_ok 1 rfl)))
  (e_Lok (e_rt (I := eI) (k := 0) ⟨(x_dk dn_345_0_1_ok 2 rfl), rfl⟩)))))))
def te_345 : Nat → eE := te_345_0
theorem te_345_ok : ∀ pc, e_EOq eft cls elay eI n_345 pc (te_345 pc) := te_345_0_ok
theorem ho_346 : (xm_y n_346).cls = "RobotCellHouseModel" := rfl
def dn_346_0_0 : List (Nat × Instr × Nat) := [(0, .aload_n 0, 1), (1, .getfield 530, 3), (4, .ifCond .eq 4, 3), (7, .return_, 1), (8, .aload_n 0, 1), (9, .bipush 45, 2), (11, .invokevirtual 586, 3), (14, .ifCond .eq 36, 3), (17, .aload_n 0, 1), (18, .invokevirtual 578, 3), (21, .aload_n 0, 1), (22, .invokevirtual 536, 3), (25, .aload_n 0, 1), (26, .invokevirtual 589, 3), (29, .aload_n 0, 1), (30, .dup, 1), (31, .getfield 542, 3), (34, .iconst 1, 1), (35, .isub, 1), (36, .putfield 542, 3), (39, .aload_n 0, 1), (40, .bipush 9, 2), (42, .iconst 0, 1), (43, .invokevirtual 565, 3), (46, .pop, 1)]
set_option maxRecDepth 20000 in
theorem dn_346_0_0_ok : dn_346_0_0.all (fun q => decide (decode (xm_b n_346) q.1 = .ok (q.2.1, q.2.2))) = true := xa_g_ok (by decide +kernel)
def dn_346_0_1 : List (Nat × Instr × Nat) := [(47, .goto 195, 3), (50, .aload_n 0, 1), (51, .getfield 497, 3), (54, .iconst 2, 1), (55, .if_icmp .ne 20, 3), (58, .aload_n 0, 1), (59, .iconst 1, 1), (60, .aload_n 0, 1), (61, .getfield 494, 3), (64, .invokevirtual 565, 3), (67, .pop, 1), (68, .aload_n 0, 1), (69, .invokevirtual 536, 3), (72, .goto 170, 3), (75, .aload_n 0, 1), (76, .getfield 497, 3), (79, .iconst 1, 1), (80, .if_icmp .ne 17, 3), (83, .aload_n 0, 1), (84, .iconst 2, 1), (85, .aload_n 0, 1), (86, .iconst 2, 1), (87, .iconst 0, 1), (88, .invokevirtual 565, 3), (91, .invokevirtual 595, 3)]
set_option maxRecDepth 20000 in
theorem dn_346_0_1_ok : dn_346_0_1.all (fun q => decide (decode (xm_b n_346) q.1 = .ok (q.2.1, q.2.2))) = true := xa_g_ok (by decide +kernel)
def dn_346_0_2 : List (Nat × Instr × Nat) := [(94, .goto 148, 3), (97, .aload_n 0, 1), (98, .bipush 27, 2), (100, .invokevirtual 562, 3), (103, .ifCond .ne 12, 3), (106, .aload_n 0, 1), (107, .bipush 28, 2), (109, .invokevirtual 562, 3), (112, .ifCond .eq 36, 3), (115, .aload_n 0, 1), (116, .getfield 494, 3), (119, .bipush 27, 2), (121, .if_icmp .ne 7, 3), (124, .iconst 3, 1), (125, .goto 4, 3), (128, .iconst 4, 1), (129, .istore_n 1, 1), (130, .aload_n 0, 1), (131, .invokevirtual 536, 3), (134, .aload_n 0, 1), (135, .invokevirtual 599, 3), (138, .aload_n 0, 1), (139, .iload_n 1, 1), (140, .iconst 0, 1), (141, .invokevirtual 565, 3)]
set_option maxRecDepth 20000 in
theorem dn_346_0_2_ok : dn_346_0_2.all (fun q => decide (decode (xm_b n_346) q.1 = .ok (q.2.1, q.2.2))) = true := xa_g_ok (by decide +kernel)
def dn_346_0_3 : List (Nat × Instr × Nat) := [(144, .pop, 1), (145, .goto 97, 3), (148, .aload_n 0, 1), (149, .bipush 40, 2), (151, .invokevirtual 586, 3), (154, .ifCond .eq 10, 3), (157, .aload_n 0, 1), (158, .invokevirtual 599, 3), (161, .goto 81, 3), (164, .aload_n 0, 1), (165, .getfield 497, 3), (168, .iconst 4, 1), (169, .if_icmp .ne 68, 3), (172, .aload_n 0, 1), (173, .getfield 494, 3), (176, .bipush 29, 2), (178, .if_icmp .lt 59, 3), (181, .aload_n 0, 1), (182, .aload_n 0, 1), (183, .getfield 494, 3), (186, .bipush 29, 2), (188, .if_icmp .ne 7, 3), (191, .iconst 5, 1), (192, .goto 33, 3), (195, .aload_n 0, 1)]
set_option maxRecDepth 20000 in
theorem dn_346_0_3_ok : dn_346_0_3.all (fun q => decide (decode (xm_b n_346) q.1 = .ok (q.2.1, q.2.2))) = true := xa_g_ok (by decide +kernel)
def dn_346_1_0 : List (Nat × Instr × Nat) := [(196, .getfield 494, 3), (199, .bipush 30, 2), (201, .if_icmp .ne 8, 3), (204, .bipush 6, 2), (206, .goto 19, 3), (209, .aload_n 0, 1), (210, .getfield 494, 3), (213, .bipush 31, 2), (215, .if_icmp .ne 8, 3), (218, .bipush 7, 2), (220, .goto 5, 3), (223, .bipush 8, 2), (225, .iconst 0, 1), (226, .invokevirtual 565, 3), (229, .pop, 1), (230, .aload_n 0, 1), (231, .invokevirtual 536, 3), (234, .goto 8, 3), (237, .aload_n 0, 1), (238, .iconst 2, 1), (239, .invokevirtual 539, 3), (242, .return_, 1)]
set_option maxRecDepth 20000 in
theorem dn_346_1_0_ok : dn_346_1_0.all (fun q => decide (decode (xm_b n_346) q.1 = .ok (q.2.1, q.2.2))) = true := xa_g_ok (by decide +kernel)
def te_346_0 : Nat → eE := (e_T 29 (e_T 11 (e_T 4 (e_T 0 (e_L 0 (0, ei_load 0 2 1, 0, 0)) (e_T 1 (e_L 1 (0, ei_getf eft elay 12 88 4, 0, 0)) (e_L 4 (0, ei_if1 0 8 7, 0, 0)))) (e_T 8 (e_T 7 (e_L 7 (1, e_nof, 0, 0)) (e_L 8 (0, ei_load 0 2 9, 0, 0))) (e_T 9 (e_L 9 (0, ei_push (0, 45) 11, 0, 0)) (e_L 11 (2, e_nof, 331, 2))))) (e_T 21 (e_T 17 (e_T 14 (e_L 14 (0, ei_if1 0 50 17, 0, 0)) (e_L 17 (0, ei_load 0 2 18, 0, 0))) (e_T 18 (e_L 18 (2, e_nof, 335, 1)) (e_L 21 (0, ei_load 0 2 22, 0, 0)))) (e_T 25 (e_T 22 (e_L 22 (2, e_nof, 327, 1)) (e_L 25 (0, ei_load 0 2 26, 0, 0))) (e_T 26 (e_L 26 (2, e_nof, 346, 1)) (e_L 29 (0, ei_load 0 2 30, 0, 0)))))) (e_T 40 (e_T 34 (e_T 30 (e_L 30 (0, ei_stk ef_dup 31, 0, 0)) (e_T 31 (e_L 31 (0, ei_getf eft elay 12 83 34, 0, 0)) (e_L 34 (0, ei_push (0, 1) 35, 0, 0)))) (e_T 36 (e_T 35 (e_L 35 (0, ei_bin eF_sub 36, 0, 0)) (e_L 36 (0, ei_putf eft elay 12 83 0 39, 0, 0))) (e_T 39 (e_L 39 (0, ei_load 0 2 40, 0, 0)) (e_L 40 (0, ei_push (0, 9) 42, 0, 0))))) (e_T 47 (e_T 43 (e_T 42 (e_L 42 (0, ei_push (0, 0) 43, 0, 0)) (e_L 43 (2, e_nof, 336, 3))) (e_T 46 (e_L 46 (0, ei_stk ef_pop 47, 0, 0)) (e_L 47 (0, ei_goto 242, 0, 0)))) (e_T 51 (e_T 50 (e_L 50 (0, ei_load 0 2 51, 0, 0)) (e_L 51 (0, ei_getf eft elay 12 84 54, 0, 0))) (e_T 54 (e_L 54 (0, ei_push (0, 2) 55, 0, 0)) (e_L 55 (0, ei_if2 1 75 58, 0, 0)))))))
set_option maxRecDepth 20000 in
set_option maxHeartbeats 4000000 in
theorem te_346_0_ok : ∀ pc, e_EOq eft cls elay eI n_346 pc (te_346_0 pc) :=
  (e_Tok2
  (e_Tok2
  (e_Tok2
  (e_Tok2
  (e_Lok (ld_aload_n_0 (x_dk dn_346_0_0_ok 0 rfl)))
  (e_Tok2
  (e_Lok (lk_12_530g ho_346 (x_dk dn_346_0_0_ok 1 rfl)))
  (e_Lok (e_st (I := eI) (er_ifeq (off := 4) (tg := 8) (x_dk dn_346_0_0_ok 2 rfl) (by decide)) nx_if1))))
  (e_Tok2
  (e_Tok2
  (e_Lok (e_rt (I := eI) (k := 0) ⟨(x_dk dn_346_0_0_ok 3 rfl), rfl⟩))
  (e_Lok (ld_aload_n_0 (x_dk dn_346_0_0_ok 4 rfl))))
  (e_Tok2
  (e_Lok (ps_bipush_45 (x_dk dn_346_0_0_ok 5 rfl)))
  (e_Lok (lk_12_586 ho_346 (x_dk dn_346_0_0_ok 6 rfl))))))
  (e_Tok2
  (e_Tok2
  (e_Tok2
  (e_Lok (e_st (I := eI) (er_ifeq (off := 36) (tg := 50) (x_dk dn_346_0_0_ok 7 rfl) (by decide)) nx_if1))
  (e_Lok (ld_aload_n_0 (x_dk dn_346_0_0_ok 8 rfl))))
  (e_Tok2
  (e_Lok (lk_12_578 ho_346 (x_dk dn_346_0_0_ok 9 rfl)))
  (e_Lok (ld_aload_n_0 (x_dk dn_346_0_0_ok 10 rfl)))))
  (e_Tok2
  (e_Tok2
  (e_Lok (lk_12_536 ho_346 (x_dk dn_346_0_0_ok 11 rfl)))
  (e_Lok (ld_aload_n_0 (x_dk dn_346_0_0_ok 12 rfl))))
  (e_Tok2
  (e_Lok (lk_12_589 ho_346 (x_dk dn_346_0_0_ok 13 rfl)))
  (e_Lok (ld_aload_n_0 (x_dk dn_346_0_0_ok 14 rfl)))))))
  (e_Tok2
  (e_Tok2
  (e_Tok2
  (e_Lok (e_st (I := eI) (er_dup (x_dk dn_346_0_0_ok 15 rfl)) (nx_stk bf_dup)))
  (e_Tok2
  (e_Lok (lk_12_542g ho_346 (x_dk dn_346_0_0_ok 16 rfl)))
  (e_Lok (ps_iconst_1 (x_dk dn_346_0_0_ok 17 rfl)))))
  (e_Tok2
  (e_Tok2
  (e_Lok (sm_isub (x_dk dn_346_0_0_ok 18 rfl)))
  (e_Lok (lk_12_542p ho_346 (x_dk dn_346_0_0_ok 19 rfl))))
  (e_Tok2
  (e_Lok (ld_aload_n_0 (x_dk dn_346_0_0_ok 20 rfl)))
  (e_Lok (ps_bipush_9 (x_dk dn_346_0_0_ok 21 rfl))))))
  (e_Tok2
  (e_Tok2
  (e_Tok2
  (e_Lok (ps_iconst_0 (x_dk dn_346_0_0_ok 22 rfl)))
  (e_Lok (lk_12_565 ho_346 (x_dk dn_346_0_0_ok 23 rfl))))
  (e_Tok2
  (e_Lok (e_st (I := eI) (er_pop (x_dk dn_346_0_0_ok 24 rfl)) (nx_stk bf_pop)))
  (e_Lok (e_st (I := eI) (er_goto (off := 195) (tg := 242) (x_dk dn_346_0_1_ok 0 rfl) (by decide)) nx_goto))))
  (e_Tok2
  (e_Tok2
  (e_Lok (ld_aload_n_0 (x_dk dn_346_0_1_ok 1 rfl)))
  (e_Lok (lk_12_497g ho_346 (x_dk dn_346_0_1_ok 2 rfl))))
  (e_Tok2
  (e_Lok (ps_iconst_2 (x_dk dn_346_0_1_ok 3 rfl)))
  (e_Lok (e_st (I := eI) (er_icmpne (off := 20) (tg := 75) (x_dk dn_346_0_1_ok 4 rfl) (by decide)) nx_if2)))))))
def te_346_30 : Nat → eE := (e_T 84 (e_T 68 (e_T 60 (e_T 58 (e_L 58 (0, ei_load 0 2 59, 0, 0)) (e_T 59 (e_L 59 (0, ei_push (0, 1) 60, 0, 0)) (e_L 60 (0, ei_load 0 2 61, 0, 0)))) (e_T 64 (e_T 61 (e_L 61 (0, ei_getf eft elay 12 85 64, 0, 0)) (e_L 64 (2, e_nof, 336, 3))) (e_T 67 (e_L 67 (0, ei_stk ef_pop 68, 0, 0)) (e_L 68 (0, ei_load 0 2 69, 0, 0))))) (e_T 76 (e_T 72 (e_T 69 (e_L 69 (2, e_nof, 327, 1)) (e_L 72 (0, ei_goto 242, 0, 0))) (e_T 75 (e_L 75 (0, ei_load 0 2 76, 0, 0)) (e_L 76 (0, ei_getf eft elay 12 84 79, 0, 0)))) (e_T 80 (e_T 79 (e_L 79 (0, ei_push (0, 1) 80, 0, 0)) (e_L 80 (0, ei_if2 1 97 83, 0, 0))) (e_T 83 (e_L 83 (0, ei_load 0 2 84, 0, 0)) (e_L 84 (0, ei_push (0, 2) 85, 0, 0)))))) (e_T 98 (e_T 88 (e_T 86 (e_T 85 (e_L 85 (0, ei_load 0 2 86, 0, 0)) (e_L 86 (0, ei_push (0, 2) 87, 0, 0))) (e_T 87 (e_L 87 (0, ei_push (0, 0) 88, 0, 0)) (e_L 88 (2, e_nof, 336, 3)))) (e_T 94 (e_T 91 (e_L 91 (2, e_nof, 338, 3)) (e_L 94 (0, ei_goto 242, 0, 0))) (e_T 97 (e_L 97 (0, ei_load 0 2 98, 0, 0)) (e_L 98 (0, ei_push (0, 27) 100, 0, 0))))) (e_T 107 (e_T 103 (e_T 100 (e_L 100 (2, e_nof, 332, 2)) (e_L 103 (0, ei_if1 1 115 106, 0, 0))) (e_T 106 (e_L 106 (0, ei_load 0 2 107, 0, 0)) (e_L 107 (0, ei_push (0, 28) 109, 0, 0)))) (e_T 112 (e_T 109 (e_L 109 (2, e_nof, 332, 2)) (e_L 112 (0, ei_if1 0 148 115, 0, 0))) (e_T 115 (e_L 115 (0, ei_load 0 2 116, 0, 0)) (e_L 116 (0, ei_getf eft elay 12 85 119, 0, 0)))))))
set_option maxRecDepth 20000 in
set_option maxHeartbeats 4000000 in
theorem te_346_30_ok : ∀ pc, e_EOq eft cls elay eI n_346 pc (te_346_30 pc) :=
  (e_Tok2
  (e_Tok2
  (e_Tok2
  (e_Tok2
  (e_Lok (ld_aload_n_0 (x_dk dn_346_0_1_ok 5 rfl)))
  (e_Tok2
  (e_Lok (ps_iconst_1 (x_dk dn_346_0_1_ok 6 rfl)))
  (e_Lok (ld_aload_n_0 (x_dk dn_346_0_1_ok 7 rfl)))))
  (e_Tok2
  (e_Tok2
  (e_Lok (lk_12_494g ho_346 (x_dk dn_346_0_1_ok 8 rfl)))
  (e_Lok (lk_12_565 ho_346 (x_dk dn_346_0_1_ok 9 rfl))))
  (e_Tok2
  (e_Lok (e_st (I := eI) (er_pop (x_dk dn_346_0_1_ok 10 rfl)) (nx_stk bf_pop)))
  (e_Lok (ld_aload_n_0 (x_dk dn_346_0_1_ok 11 rfl))))))
  (e_Tok2
  (e_Tok2
  (e_Tok2
  (e_Lok (lk_12_536 ho_346 (x_dk dn_346_0_1_ok 12 rfl)))
  (e_Lok (e_st (I := eI) (er_goto (off := 170) (tg := 242) (x_dk dn_346_0_1_ok 13 rfl) (by decide)) nx_goto)))
  (e_Tok2
  (e_Lok (ld_aload_n_0 (x_dk dn_346_0_1_ok 14 rfl)))
  (e_Lok (lk_12_497g ho_346 (x_dk dn_346_0_1_ok 15 rfl)))))
  (e_Tok2
  (e_Tok2
  (e_Lok (ps_iconst_1 (x_dk dn_346_0_1_ok 16 rfl)))
  (e_Lok (e_st (I := eI) (er_icmpne (off := 17) (tg := 97) (x_dk dn_346_0_1_ok 17 rfl) (by decide)) nx_if2)))
  (e_Tok2
  (e_Lok (ld_aload_n_0 (x_dk dn_346_0_1_ok 18 rfl)))
  (e_Lok (ps_iconst_2 (x_dk dn_346_0_1_ok 19 rfl)))))))
  (e_Tok2
  (e_Tok2
  (e_Tok2
  (e_Tok2
  (e_Lok (ld_aload_n_0 (x_dk dn_346_0_1_ok 20 rfl)))
  (e_Lok (ps_iconst_2 (x_dk dn_346_0_1_ok 21 rfl))))
  (e_Tok2
  (e_Lok (ps_iconst_0 (x_dk dn_346_0_1_ok 22 rfl)))
  (e_Lok (lk_12_565 ho_346 (x_dk dn_346_0_1_ok 23 rfl)))))
  (e_Tok2
  (e_Tok2
  (e_Lok (lk_12_595 ho_346 (x_dk dn_346_0_1_ok 24 rfl)))
  (e_Lok (e_st (I := eI) (er_goto (off := 148) (tg := 242) (x_dk dn_346_0_2_ok 0 rfl) (by decide)) nx_goto)))
  (e_Tok2
  (e_Lok (ld_aload_n_0 (x_dk dn_346_0_2_ok 1 rfl)))
  (e_Lok (ps_bipush_27 (x_dk dn_346_0_2_ok 2 rfl))))))
  (e_Tok2
  (e_Tok2
  (e_Tok2
  (e_Lok (lk_12_562 ho_346 (x_dk dn_346_0_2_ok 3 rfl)))
  (e_Lok (e_st (I := eI) (er_ifne (off := 12) (tg := 115) (x_dk dn_346_0_2_ok 4 rfl) (by decide)) nx_if1)))
  (e_Tok2
  (e_Lok (ld_aload_n_0 (x_dk dn_346_0_2_ok 5 rfl)))
  (e_Lok (ps_bipush_28 (x_dk dn_346_0_2_ok 6 rfl)))))
  (e_Tok2
  (e_Tok2
  (e_Lok (lk_12_562 ho_346 (x_dk dn_346_0_2_ok 7 rfl)))
  (e_Lok (e_st (I := eI) (er_ifeq (off := 36) (tg := 148) (x_dk dn_346_0_2_ok 8 rfl) (by decide)) nx_if1)))
  (e_Tok2
  (e_Lok (ld_aload_n_0 (x_dk dn_346_0_2_ok 9 rfl)))
  (e_Lok (lk_12_494g ho_346 (x_dk dn_346_0_2_ok 10 rfl))))))))
def te_346_61 : Nat → eE := (e_T 144 (e_T 130 (e_T 124 (e_T 119 (e_L 119 (0, ei_push (0, 27) 121, 0, 0)) (e_T 121 (e_L 121 (0, ei_if2 1 128 124, 0, 0)) (e_L 124 (0, ei_push (0, 3) 125, 0, 0)))) (e_T 128 (e_T 125 (e_L 125 (0, ei_goto 129, 0, 0)) (e_L 128 (0, ei_push (0, 4) 129, 0, 0))) (e_T 129 (e_L 129 (0, ei_stor 1 0 130, 0, 0)) (e_L 130 (0, ei_load 0 2 131, 0, 0))))) (e_T 138 (e_T 134 (e_T 131 (e_L 131 (2, e_nof, 327, 1)) (e_L 134 (0, ei_load 0 2 135, 0, 0))) (e_T 135 (e_L 135 (2, e_nof, 345, 1)) (e_L 138 (0, ei_load 0 2 139, 0, 0)))) (e_T 140 (e_T 139 (e_L 139 (0, ei_load 1 0 140, 0, 0)) (e_L 140 (0, ei_push (0, 0) 141, 0, 0))) (e_T 141 (e_L 141 (2, e_nof, 336, 3)) (e_L 144 (0, ei_stk ef_pop 145, 0, 0)))))) (e_T 158 (e_T 149 (e_T 145 (e_L 145 (0, ei_goto 242, 0, 0)) (e_T 148 (e_L 148 (0, ei_load 0 2 149, 0, 0)) (e_L 149 (0, ei_push (0, 40) 151, 0, 0)))) (e_T 154 (e_T 151 (e_L 151 (2, e_nof, 331, 2)) (e_L 154 (0, ei_if1 0 164 157, 0, 0))) (e_T 157 (e_L 157 (0, ei_load 0 2 158, 0, 0)) (e_L 158 (2, e_nof, 345, 1))))) (e_T 168 (e_T 164 (e_T 161 (e_L 161 (0, ei_goto 242, 0, 0)) (e_L 164 (0, ei_load 0 2 165, 0, 0))) (e_T 165 (e_L 165 (0, ei_getf eft elay 12 84 168, 0, 0)) (e_L 168 (0, ei_push (0, 4) 169, 0, 0)))) (e_T 172 (e_T 169 (e_L 169 (0, ei_if2 1 237 172, 0, 0)) (e_L 172 (0, ei_load 0 2 173, 0, 0))) (e_T 173 (e_L 173 (0, ei_getf eft elay 12 85 176, 0, 0)) (e_L 176 (0, ei_push (0, 29) 178, 0, 0)))))))
set_option maxRecDepth 20000 in
set_option maxHeartbeats 4000000 in
theorem te_346_61_ok : ∀ pc, e_EOq eft cls elay eI n_346 pc (te_346_61 pc) :=
  (e_Tok2
  (e_Tok2
  (e_Tok2
  (e_Tok2
  (e_Lok (ps_bipush_27 (x_dk dn_346_0_2_ok 11 rfl)))
  (e_Tok2
  (e_Lok (e_st (I := eI) (er_icmpne (off := 7) (tg := 128) (x_dk dn_346_0_2_ok 12 rfl) (by decide)) nx_if2))
  (e_Lok (ps_iconst_3 (x_dk dn_346_0_2_ok 13 rfl)))))
  (e_Tok2
  (e_Tok2
  (e_Lok (e_st (I := eI) (er_goto (off := 4) (tg := 129) (x_dk dn_346_0_2_ok 14 rfl) (by decide)) nx_goto))
  (e_Lok (ps_iconst_4 (x_dk dn_346_0_2_ok 15 rfl))))
  (e_Tok2
  (e_Lok (e_st (I := eI) (er_istore_n (i := 1) (x_dk dn_346_0_2_ok 16 rfl) (by decide +kernel)) nx_stor))
  (e_Lok (ld_aload_n_0 (x_dk dn_346_0_2_ok 17 rfl))))))
  (e_Tok2
  (e_Tok2
  (e_Tok2
  (e_Lok (lk_12_536 ho_346 (x_dk dn_346_0_2_ok 18 rfl)))
  (e_Lok (ld_aload_n_0 (x_dk dn_346_0_2_ok 19 rfl))))
  (e_Tok2
  (e_Lok (lk_12_599 ho_346 (x_dk dn_346_0_2_ok 20 rfl)))
  (e_Lok (ld_aload_n_0 (x_dk dn_346_0_2_ok 21 rfl)))))
  (e_Tok2
  (e_Tok2
  (e_Lok (ld_iload_n_1 (x_dk dn_346_0_2_ok 22 rfl)))
  (e_Lok (ps_iconst_0 (x_dk dn_346_0_2_ok 23 rfl))))
  (e_Tok2
  (e_Lok (lk_12_565 ho_346 (x_dk dn_346_0_2_ok 24 rfl)))
  (e_Lok (e_st (I := eI) (er_pop (x_dk dn_346_0_3_ok 0 rfl)) (nx_stk bf_pop)))))))
  (e_Tok2
  (e_Tok2
  (e_Tok2
  (e_Lok (e_st (I := eI) (er_goto (off := 97) (tg := 242) (x_dk dn_346_0_3_ok 1 rfl) (by decide)) nx_goto))
  (e_Tok2
  (e_Lok (ld_aload_n_0 (x_dk dn_346_0_3_ok 2 rfl)))
  (e_Lok (ps_bipush_40 (x_dk dn_346_0_3_ok 3 rfl)))))
  (e_Tok2
  (e_Tok2
  (e_Lok (lk_12_586 ho_346 (x_dk dn_346_0_3_ok 4 rfl)))
  (e_Lok (e_st (I := eI) (er_ifeq (off := 10) (tg := 164) (x_dk dn_346_0_3_ok 5 rfl) (by decide)) nx_if1)))
  (e_Tok2
  (e_Lok (ld_aload_n_0 (x_dk dn_346_0_3_ok 6 rfl)))
  (e_Lok (lk_12_599 ho_346 (x_dk dn_346_0_3_ok 7 rfl))))))
  (e_Tok2
  (e_Tok2
  (e_Tok2
  (e_Lok (e_st (I := eI) (er_goto (off := 81) (tg := 242) (x_dk dn_346_0_3_ok 8 rfl) (by decide)) nx_goto))
  (e_Lok (ld_aload_n_0 (x_dk dn_346_0_3_ok 9 rfl))))
  (e_Tok2
  (e_Lok (lk_12_497g ho_346 (x_dk dn_346_0_3_ok 10 rfl)))
  (e_Lok (ps_iconst_4 (x_dk dn_346_0_3_ok 11 rfl)))))
  (e_Tok2
  (e_Tok2
  (e_Lok (e_st (I := eI) (er_icmpne (off := 68) (tg := 237) (x_dk dn_346_0_3_ok 12 rfl) (by decide)) nx_if2))
  (e_Lok (ld_aload_n_0 (x_dk dn_346_0_3_ok 13 rfl))))
  (e_Tok2
  (e_Lok (lk_12_494g ho_346 (x_dk dn_346_0_3_ok 14 rfl)))
  (e_Lok (ps_bipush_29 (x_dk dn_346_0_3_ok 15 rfl))))))))
def te_346_91 : Nat → eE := (e_T 209 (e_T 191 (e_T 182 (e_T 178 (e_L 178 (0, ei_if2 2 237 181, 0, 0)) (e_T 181 (e_L 181 (0, ei_load 0 2 182, 0, 0)) (e_L 182 (0, ei_load 0 2 183, 0, 0)))) (e_T 186 (e_T 183 (e_L 183 (0, ei_getf eft elay 12 85 186, 0, 0)) (e_L 186 (0, ei_push (0, 29) 188, 0, 0))) (e_T 188 (e_L 188 (0, ei_if2 1 195 191, 0, 0)) (e_L 191 (0, ei_push (0, 5) 192, 0, 0))))) (e_T 199 (e_T 195 (e_T 192 (e_L 192 (0, ei_goto 225, 0, 0)) (e_L 195 (0, ei_load 0 2 196, 0, 0))) (e_T 196 (e_L 196 (0, ei_getf eft elay 12 85 199, 0, 0)) (e_L 199 (0, ei_push (0, 30) 201, 0, 0)))) (e_T 204 (e_T 201 (e_L 201 (0, ei_if2 1 209 204, 0, 0)) (e_L 204 (0, ei_push (0, 6) 206, 0, 0))) (e_T 206 (e_L 206 (0, ei_goto 225, 0, 0)) (e_L 209 (0, ei_load 0 2 210, 0, 0)))))) (e_T 226 (e_T 218 (e_T 213 (e_T 210 (e_L 210 (0, ei_getf eft elay 12 85 213, 0, 0)) (e_L 213 (0, ei_push (0, 31) 215, 0, 0))) (e_T 215 (e_L 215 (0, ei_if2 1 223 218, 0, 0)) (e_L 218 (0, ei_push (0, 7) 220, 0, 0)))) (e_T 223 (e_T 220 (e_L 220 (0, ei_goto 225, 0, 0)) (e_L 223 (0, ei_push (0, 8) 225, 0, 0))) (e_T 225 (e_L 225 (0, ei_push (0, 0) 226, 0, 0)) (e_L 226 (2, e_nof, 336, 3))))) (e_T 234 (e_T 230 (e_T 229 (e_L 229 (0, ei_stk ef_pop 230, 0, 0)) (e_L 230 (0, ei_load 0 2 231, 0, 0))) (e_T 231 (e_L 231 (2, e_nof, 327, 1)) (e_L 234 (0, ei_goto 242, 0, 0)))) (e_T 238 (e_T 237 (e_L 237 (0, ei_load 0 2 238, 0, 0)) (e_L 238 (0, ei_push (0, 2) 239, 0, 0))) (e_T 239 (e_L 239 (2, e_nof, 333, 2)) (e_L 242 (1, e_nof, 0, 0)))))))
set_option maxRecDepth 20000 in
set_option maxHeartbeats 4000000 in
theorem te_346_91_ok : ∀ pc, e_EOq eft cls elay eI n_346 pc (te_346_91 pc) :=
  (e_Tok2
  (e_Tok2
  (e_Tok2
  (e_Tok2
  (e_Lok (e_st (I := eI) (er_icmplt (off := 59) (tg := 237) (x_dk dn_346_0_3_ok 16 rfl) (by decide)) nx_if2))
  (e_Tok2
  (e_Lok (ld_aload_n_0 (x_dk dn_346_0_3_ok 17 rfl)))
  (e_Lok (ld_aload_n_0 (x_dk dn_346_0_3_ok 18 rfl)))))
  (e_Tok2
  (e_Tok2
  (e_Lok (lk_12_494g ho_346 (x_dk dn_346_0_3_ok 19 rfl)))
  (e_Lok (ps_bipush_29 (x_dk dn_346_0_3_ok 20 rfl))))
  (e_Tok2
  (e_Lok (e_st (I := eI) (er_icmpne (off := 7) (tg := 195) (x_dk dn_346_0_3_ok 21 rfl) (by decide)) nx_if2))
  (e_Lok (ps_iconst_5 (x_dk dn_346_0_3_ok 22 rfl))))))
  (e_Tok2
  (e_Tok2
  (e_Tok2
  (e_Lok (e_st (I := eI) (er_goto (off := 33) (tg := 225) (x_dk dn_346_0_3_ok 23 rfl) (by decide)) nx_goto))
  (e_Lok (ld_aload_n_0 (x_dk dn_346_0_3_ok 24 rfl))))
  (e_Tok2
  (e_Lok (lk_12_494g ho_346 (x_dk dn_346_1_0_ok 0 rfl)))
  (e_Lok (ps_bipush_30 (x_dk dn_346_1_0_ok 1 rfl)))))
  (e_Tok2
  (e_Tok2
  (e_Lok (e_st (I := eI) (er_icmpne (off := 8) (tg := 209) (x_dk dn_346_1_0_ok 2 rfl) (by decide)) nx_if2))
  (e_Lok (ps_bipush_6 (x_dk dn_346_1_0_ok 3 rfl))))
  (e_Tok2
  (e_Lok (e_st (I := eI) (er_goto (off := 19) (tg := 225) (x_dk dn_346_1_0_ok 4 rfl) (by decide)) nx_goto))
  (e_Lok (ld_aload_n_0 (x_dk dn_346_1_0_ok 5 rfl)))))))
  (e_Tok2
  (e_Tok2
  (e_Tok2
  (e_Tok2
  (e_Lok (lk_12_494g ho_346 (x_dk dn_346_1_0_ok 6 rfl)))
  (e_Lok (ps_bipush_31 (x_dk dn_346_1_0_ok 7 rfl))))
  (e_Tok2
  (e_Lok (e_st (I := eI) (er_icmpne (off := 8) (tg := 223) (x_dk dn_346_1_0_ok 8 rfl) (by decide)) nx_if2))
  (e_Lok (ps_bipush_7 (x_dk dn_346_1_0_ok 9 rfl)))))
  (e_Tok2
  (e_Tok2
  (e_Lok (e_st (I := eI) (er_goto (off := 5) (tg := 225) (x_dk dn_346_1_0_ok 10 rfl) (by decide)) nx_goto))
  (e_Lok (ps_bipush_8 (x_dk dn_346_1_0_ok 11 rfl))))
  (e_Tok2
  (e_Lok (ps_iconst_0 (x_dk dn_346_1_0_ok 12 rfl)))
  (e_Lok (lk_12_565 ho_346 (x_dk dn_346_1_0_ok 13 rfl))))))
  (e_Tok2
  (e_Tok2
  (e_Tok2
  (e_Lok (e_st (I := eI) (er_pop (x_dk dn_346_1_0_ok 14 rfl)) (nx_stk bf_pop)))
  (e_Lok (ld_aload_n_0 (x_dk dn_346_1_0_ok 15 rfl))))
  (e_Tok2
  (e_Lok (lk_12_536 ho_346 (x_dk dn_346_1_0_ok 16 rfl)))
  (e_Lok (e_st (I := eI) (er_goto (off := 8) (tg := 242) (x_dk dn_346_1_0_ok 17 rfl) (by decide)) nx_goto))))
  (e_Tok2
  (e_Tok2
  (e_Lok (ld_aload_n_0 (x_dk dn_346_1_0_ok 18 rfl)))
  (e_Lok (ps_iconst_2 (x_dk dn_346_1_0_ok 19 rfl))))
  (e_Tok2
  (e_Lok (lk_12_539 ho_346 (x_dk dn_346_1_0_ok 20 rfl)))
  (e_Lok (e_rt (I := eI) (k := 0) ⟨(x_dk dn_346_1_0_ok 21 rfl), rfl⟩)))))))
def te_346 : Nat → eE := (e_T 116 (e_T 55 te_346_0 te_346_30) (e_T 176 te_346_61 te_346_91))
theorem te_346_ok : ∀ pc, e_EOq eft cls elay eI n_346 pc (te_346 pc) := (e_Tok2 ((e_Tok2 (te_346_0_ok) (te_346_30_ok))) ((e_Tok2 (te_346_61_ok) (te_346_91_ok))))
theorem ho_347 : (xm_y n_347).cls = "RobotCellHouseModel" := rfl
def dn_347_0_0 : List (Nat × Instr × Nat) := [(0, .aload_n 0, 1), (1, .getfield 530, 3), (4, .ifCond .ne 58, 3), (7, .aload_n 0, 1), (8, .getfield 497, 3), (11, .iconst 1, 1), (12, .if_icmp .eq 46, 3), (15, .aload_n 0, 1), (16, .getfield 497, 3), (19, .iconst 4, 1), (20, .if_icmp .ne 42, 3), (23, .aload_n 0, 1), (24, .getfield 494, 3), (27, .i2l, 1), (28, .ldc2_w 348, 3), (31, .ldc2_w 602, 3), (34, .invokestatic 301, 3), (37, .ifCond .ne 21, 3), (40, .aload_n 0, 1), (41, .getfield 494, 3), (44, .bipush 20, 2), (46, .if_icmp .eq 12, 3), (49, .aload_n 0, 1), (50, .getfield 494, 3), (53, .bipush 21, 2)]
set_option maxRecDepth 20000 in
theorem dn_347_0_0_ok : dn_347_0_0.all (fun q => decide (decode (xm_b n_347) q.1 = .ok (q.2.1, q.2.2))) = true := xa_g_ok (by decide +kernel)
def dn_347_0_1 : List (Nat × Instr × Nat) := [(55, .if_icmp .ne 7, 3), (58, .iconst 1, 1), (59, .goto 4, 3), (62, .iconst 0, 1), (63, .ireturn, 1)]
set_option maxRecDepth 20000 in
theorem dn_347_0_1_ok : dn_347_0_1.all (fun q => decide (decode (xm_b n_347) q.1 = .ok (q.2.1, q.2.2))) = true := xa_g_ok (by decide +kernel)
def te_347_0 : Nat → eE := (e_T 28 (e_T 12 (e_T 4 (e_T 0 (e_L 0 (0, ei_load 0 2 1, 0, 0)) (e_T 1 (e_L 1 (0, ei_getf eft elay 12 88 4, 0, 0)) (e_L 4 (0, ei_if1 1 62 7, 0, 0)))) (e_T 8 (e_T 7 (e_L 7 (0, ei_load 0 2 8, 0, 0)) (e_L 8 (0, ei_getf eft elay 12 84 11, 0, 0))) (e_T 11 (e_L 11 (0, ei_push (0, 1) 12, 0, 0)) (e_L 12 (0, ei_if2 0 58 15, 0, 0))))) (e_T 20 (e_T 16 (e_T 15 (e_L 15 (0, ei_load 0 2 16, 0, 0)) (e_L 16 (0, ei_getf eft elay 12 84 19, 0, 0))) (e_T 19 (e_L 19 (0, ei_push (0, 4) 20, 0, 0)) (e_L 20 (0, ei_if2 1 62 23, 0, 0)))) (e_T 24 (e_T 23 (e_L 23 (0, ei_load 0 2 24, 0, 0)) (e_L 24 (0, ei_getf eft elay 12 85 27, 0, 0))) (e_T 27 (e_L 27 (0, ei_un (fun x => (4, x)) 28, 0, 0)) (e_L 28 (0, ei_push (4, 3) 31, 0, 0)))))) (e_T 46 (e_T 37 (e_T 31 (e_L 31 (0, ei_push (4, 18) 34, 0, 0)) (e_T 34 (e_L 34 (2, e_nof, 266, 3)) (e_L 37 (0, ei_if1 1 58 40, 0, 0)))) (e_T 41 (e_T 40 (e_L 40 (0, ei_load 0 2 41, 0, 0)) (e_L 41 (0, ei_getf eft elay 12 85 44, 0, 0))) (e_T 44 (e_L 44 (0, ei_push (0, 20) 46, 0, 0)) (e_L 46 (0, ei_if2 0 58 49, 0, 0))))) (e_T 55 (e_T 50 (e_T 49 (e_L 49 (0, ei_load 0 2 50, 0, 0)) (e_L 50 (0, ei_getf eft elay 12 85 53, 0, 0))) (e_T 53 (e_L 53 (0, ei_push (0, 21) 55, 0, 0)) (e_L 55 (0, ei_if2 1 62 58, 0, 0)))) (e_T 59 (e_T 58 (e_L 58 (0, ei_push (0, 1) 59, 0, 0)) (e_L 59 (0, ei_goto 63, 0, 0))) (e_T 62 (e_L 62 (0, ei_push (0, 0) 63, 0, 0)) (e_L 63 (1, e_nof, 4, 0)))))))
set_option maxRecDepth 20000 in
set_option maxHeartbeats 4000000 in
theorem te_347_0_ok : ∀ pc, e_EOq eft cls elay eI n_347 pc (te_347_0 pc) :=
  (e_Tok2
  (e_Tok2
  (e_Tok2
  (e_Tok2
  (e_Lok (ld_aload_n_0 (x_dk dn_347_0_0_ok 0 rfl)))
  (e_Tok2
  (e_Lok (lk_12_530g ho_347 (x_dk dn_347_0_0_ok 1 rfl)))
  (e_Lok (e_st (I := eI) (er_ifne (off := 58) (tg := 62) (x_dk dn_347_0_0_ok 2 rfl) (by decide)) nx_if1))))
  (e_Tok2
  (e_Tok2
  (e_Lok (ld_aload_n_0 (x_dk dn_347_0_0_ok 3 rfl)))
  (e_Lok (lk_12_497g ho_347 (x_dk dn_347_0_0_ok 4 rfl))))
  (e_Tok2
  (e_Lok (ps_iconst_1 (x_dk dn_347_0_0_ok 5 rfl)))
  (e_Lok (e_st (I := eI) (er_icmpeq (off := 46) (tg := 58) (x_dk dn_347_0_0_ok 6 rfl) (by decide)) nx_if2)))))
  (e_Tok2
  (e_Tok2
  (e_Tok2
  (e_Lok (ld_aload_n_0 (x_dk dn_347_0_0_ok 7 rfl)))
  (e_Lok (lk_12_497g ho_347 (x_dk dn_347_0_0_ok 8 rfl))))
  (e_Tok2
  (e_Lok (ps_iconst_4 (x_dk dn_347_0_0_ok 9 rfl)))
  (e_Lok (e_st (I := eI) (er_icmpne (off := 42) (tg := 62) (x_dk dn_347_0_0_ok 10 rfl) (by decide)) nx_if2))))
  (e_Tok2
  (e_Tok2
  (e_Lok (ld_aload_n_0 (x_dk dn_347_0_0_ok 11 rfl)))
  (e_Lok (lk_12_494g ho_347 (x_dk dn_347_0_0_ok 12 rfl))))
  (e_Tok2
  (e_Lok (e_st (I := eI) (er_i2l (x_dk dn_347_0_0_ok 13 rfl)) (nx_un (fun _ => rfl))))
  (e_Lok (e_st (I := eI) (er_ldc2 (ix := 348) (z := 3) (v := 3) (x_dk dn_347_0_0_ok 14 rfl) (in_t11 (List.mem_of_getElem? (i := 71) rfl) rfl) (by decide)) (nx_push (Or.inl rfl))))))))
  (e_Tok2
  (e_Tok2
  (e_Tok2
  (e_Lok (e_st (I := eI) (er_ldc2 (ix := 602) (z := 18) (v := 18) (x_dk dn_347_0_0_ok 15 rfl) (in_t12 (List.mem_of_getElem? (i := 35) rfl) rfl) (by decide)) (nx_push (Or.inl rfl))))
  (e_Tok2
  (e_Lok (lk_12_301 ho_347 (x_dk dn_347_0_0_ok 16 rfl)))
  (e_Lok (e_st (I := eI) (er_ifne (off := 21) (tg := 58) (x_dk dn_347_0_0_ok 17 rfl) (by decide)) nx_if1))))
  (e_Tok2
  (e_Tok2
  (e_Lok (ld_aload_n_0 (x_dk dn_347_0_0_ok 18 rfl)))
  (e_Lok (lk_12_494g ho_347 (x_dk dn_347_0_0_ok 19 rfl))))
  (e_Tok2
  (e_Lok (ps_bipush_20 (x_dk dn_347_0_0_ok 20 rfl)))
  (e_Lok (e_st (I := eI) (er_icmpeq (off := 12) (tg := 58) (x_dk dn_347_0_0_ok 21 rfl) (by decide)) nx_if2)))))
  (e_Tok2
  (e_Tok2
  (e_Tok2
  (e_Lok (ld_aload_n_0 (x_dk dn_347_0_0_ok 22 rfl)))
  (e_Lok (lk_12_494g ho_347 (x_dk dn_347_0_0_ok 23 rfl))))
  (e_Tok2
  (e_Lok (ps_bipush_21 (x_dk dn_347_0_0_ok 24 rfl)))
  (e_Lok (e_st (I := eI) (er_icmpne (off := 7) (tg := 62) (x_dk dn_347_0_1_ok 0 rfl) (by decide)) nx_if2))))
  (e_Tok2
  (e_Tok2
  (e_Lok (ps_iconst_1 (x_dk dn_347_0_1_ok 1 rfl)))
  (e_Lok (e_st (I := eI) (er_goto (off := 4) (tg := 63) (x_dk dn_347_0_1_ok 2 rfl) (by decide)) nx_goto)))
  (e_Tok2
  (e_Lok (ps_iconst_0 (x_dk dn_347_0_1_ok 3 rfl)))
  (e_Lok (e_rt (I := eI) (k := 4) ⟨(x_dk dn_347_0_1_ok 4 rfl), rfl⟩)))))))
def te_347 : Nat → eE := te_347_0
theorem te_347_ok : ∀ pc, e_EOq eft cls elay eI n_347 pc (te_347 pc) := te_347_0_ok
theorem ho_348 : (xm_y n_348).cls = "RobotCellHouseModel" := rfl
def dn_348_0_0 : List (Nat × Instr × Nat) := [(0, .aload_n 0, 1), (1, .invokevirtual 604, 3), (4, .ifCond .eq 129, 3), (7, .aload_n 0, 1), (8, .getfield 497, 3), (11, .iconst 1, 1), (12, .if_icmp .ne 62, 3), (15, .aload_n 0, 1), (16, .bipush 30, 2), (18, .iconst 0, 1), (19, .invokevirtual 565, 3), (22, .pop, 1), (23, .aload_n 0, 1), (24, .getfield 552, 3), (27, .istore_n 1, 1), (28, .aload_n 0, 1), (29, .iconst 2, 1), (30, .iconst 0, 1), (31, .invokevirtual 595, 3), (34, .aload_n 0, 1), (35, .aload_n 0, 1), (36, .bipush 61, 2), (38, .invokevirtual 586, 3), (41, .invokevirtual 555, 3), (44, .aload_n 0, 1)]
set_option maxRecDepth 20000 in
theorem dn_348_0_0_ok : dn_348_0_0.all (fun q => decide (decode (xm_b n_348) q.1 = .ok (q.2.1, q.2.2))) = true := xa_g_ok (by decide +kernel)
def dn_348_0_1 : List (Nat × Instr × Nat) := [(45, .invokevirtual 592, 3), (48, .aload_n 0, 1), (49, .aload_n 0, 1), (50, .bipush 59, 2), (52, .invokevirtual 586, 3), (55, .invokevirtual 555, 3), (58, .aload_n 0, 1), (59, .getfield 219, 3), (62, .iload_n 1, 1), (63, .aload_n 0, 1), (64, .bipush 31, 2), (66, .iconst 0, 1), (67, .invokevirtual 565, 3), (70, .iastore, 1), (71, .goto (-71), 3), (74, .aload_n 0, 1), (75, .getfield 494, 3), (78, .bipush 18, 2), (80, .if_icmp .ne 10, 3), (83, .aload_n 0, 1), (84, .invokevirtual 608, 3), (87, .goto (-87), 3), (90, .aload_n 0, 1), (91, .getfield 494, 3), (94, .bipush 20, 2)]
set_option maxRecDepth 20000 in
theorem dn_348_0_1_ok : dn_348_0_1.all (fun q => decide (decode (xm_b n_348) q.1 = .ok (q.2.1, q.2.2))) = true := xa_g_ok (by decide +kernel)
def dn_348_0_2 : List (Nat × Instr × Nat) := [(96, .if_icmp .ne 10, 3), (99, .aload_n 0, 1), (100, .invokevirtual 611, 3), (103, .goto (-103), 3), (106, .aload_n 0, 1), (107, .getfield 494, 3), (110, .bipush 21, 2), (112, .if_icmp .ne 10, 3), (115, .aload_n 0, 1), (116, .invokevirtual 614, 3), (119, .goto (-119), 3), (122, .aload_n 0, 1), (123, .aload_n 0, 1), (124, .getfield 494, 3), (127, .invokevirtual 617, 3), (130, .goto (-130), 3), (133, .return_, 1)]
set_option maxRecDepth 20000 in
theorem dn_348_0_2_ok : dn_348_0_2.all (fun q => decide (decode (xm_b n_348) q.1 = .ok (q.2.1, q.2.2))) = true := xa_g_ok (by decide +kernel)
def te_348_0 : Nat → eE := (e_T 28 (e_T 15 (e_T 7 (e_T 1 (e_T 0 (e_L 0 (0, ei_load 0 2 1, 0, 0)) (e_L 1 (2, e_nof, 347, 1))) (e_T 4 (e_L 4 (0, ei_if1 0 133 7, 0, 0)) (e_L 7 (0, ei_load 0 2 8, 0, 0)))) (e_T 11 (e_T 8 (e_L 8 (0, ei_getf eft elay 12 84 11, 0, 0)) (e_L 11 (0, ei_push (0, 1) 12, 0, 0))) (e_T 12 (e_L 12 (0, ei_if2 1 74 15, 0, 0)) (e_L 15 (0, ei_load 0 2 16, 0, 0))))) (e_T 22 (e_T 18 (e_T 16 (e_L 16 (0, ei_push (0, 30) 18, 0, 0)) (e_L 18 (0, ei_push (0, 0) 19, 0, 0))) (e_T 19 (e_L 19 (2, e_nof, 336, 3)) (e_L 22 (0, ei_stk ef_pop 23, 0, 0)))) (e_T 24 (e_T 23 (e_L 23 (0, ei_load 0 2 24, 0, 0)) (e_L 24 (0, ei_getf eft elay 12 94 27, 0, 0))) (e_T 27 (e_L 27 (0, ei_stor 1 0 28, 0, 0)) (e_L 28 (0, ei_load 0 2 29, 0, 0)))))) (e_T 41 (e_T 34 (e_T 30 (e_T 29 (e_L 29 (0, ei_push (0, 2) 30, 0, 0)) (e_L 30 (0, ei_push (0, 0) 31, 0, 0))) (e_T 31 (e_L 31 (2, e_nof, 338, 3)) (e_L 34 (0, ei_load 0 2 35, 0, 0)))) (e_T 36 (e_T 35 (e_L 35 (0, ei_load 0 2 36, 0, 0)) (e_L 36 (0, ei_push (0, 61) 38, 0, 0))) (e_T 38 (e_L 38 (2, e_nof, 331, 2)) (e_L 41 (2, e_nof, 334, 2))))) (e_T 49 (e_T 45 (e_T 44 (e_L 44 (0, ei_load 0 2 45, 0, 0)) (e_L 45 (2, e_nof, 339, 1))) (e_T 48 (e_L 48 (0, ei_load 0 2 49, 0, 0)) (e_L 49 (0, ei_load 0 2 50, 0, 0)))) (e_T 52 (e_T 50 (e_L 50 (0, ei_push (0, 59) 52, 0, 0)) (e_L 52 (2, e_nof, 331, 2))) (e_T 55 (e_L 55 (2, e_nof, 334, 2)) (e_T 58 (e_L 58 (0, ei_load 0 2 59, 0, 0)) (e_L 59 (0, ei_getf eft elay 12 93 62, 0, 0))))))))
set_option maxRecDepth 20000 in
set_option maxHeartbeats 4000000 in
theorem te_348_0_ok : ∀ pc, e_EOq eft cls elay eI n_348 pc (te_348_0 pc) :=
  (e_Tok2
  (e_Tok2
  (e_Tok2
  (e_Tok2
  (e_Tok2
  (e_Lok (ld_aload_n_0 (x_dk dn_348_0_0_ok 0 rfl)))
  (e_Lok (lk_12_604 ho_348 (x_dk dn_348_0_0_ok 1 rfl))))
  (e_Tok2
  (e_Lok (e_st (I := eI) (er_ifeq (off := 129) (tg := 133) (x_dk dn_348_0_0_ok 2 rfl) (by decide)) nx_if1))
  (e_Lok (ld_aload_n_0 (x_dk dn_348_0_0_ok 3 rfl)))))
  (e_Tok2
  (e_Tok2
  (e_Lok (lk_12_497g ho_348 (x_dk dn_348_0_0_ok 4 rfl)))
  (e_Lok (ps_iconst_1 (x_dk dn_348_0_0_ok 5 rfl))))
  (e_Tok2
  (e_Lok (e_st (I := eI) (er_icmpne (off := 62) (tg := 74) (x_dk dn_348_0_0_ok 6 rfl) (by decide)) nx_if2))
  (e_Lok (ld_aload_n_0 (x_dk dn_348_0_0_ok 7 rfl))))))
  (e_Tok2
  (e_Tok2
  (e_Tok2
  (e_Lok (ps_bipush_30 (x_dk dn_348_0_0_ok 8 rfl)))
  (e_Lok (ps_iconst_0 (x_dk dn_348_0_0_ok 9 rfl))))
  (e_Tok2
  (e_Lok (lk_12_565 ho_348 (x_dk dn_348_0_0_ok 10 rfl)))
  (e_Lok (e_st (I := eI) (er_pop (x_dk dn_348_0_0_ok 11 rfl)) (nx_stk bf_pop)))))
  (e_Tok2
  (e_Tok2
  (e_Lok (ld_aload_n_0 (x_dk dn_348_0_0_ok 12 rfl)))
  (e_Lok (lk_12_552g ho_348 (x_dk dn_348_0_0_ok 13 rfl))))
  (e_Tok2
  (e_Lok (e_st (I := eI) (er_istore_n (i := 1) (x_dk dn_348_0_0_ok 14 rfl) (by decide +kernel)) nx_stor))
  (e_Lok (ld_aload_n_0 (x_dk dn_348_0_0_ok 15 rfl)))))))
  (e_Tok2
  (e_Tok2
  (e_Tok2
  (e_Tok2
  (e_Lok (ps_iconst_2 (x_dk dn_348_0_0_ok 16 rfl)))
  (e_Lok (ps_iconst_0 (x_dk dn_348_0_0_ok 17 rfl))))
  (e_Tok2
  (e_Lok (lk_12_595 ho_348 (x_dk dn_348_0_0_ok 18 rfl)))
  (e_Lok (ld_aload_n_0 (x_dk dn_348_0_0_ok 19 rfl)))))
  (e_Tok2
  (e_Tok2
  (e_Lok (ld_aload_n_0 (x_dk dn_348_0_0_ok 20 rfl)))
  (e_Lok (ps_bipush_61 (x_dk dn_348_0_0_ok 21 rfl))))
  (e_Tok2
  (e_Lok (lk_12_586 ho_348 (x_dk dn_348_0_0_ok 22 rfl)))
  (e_Lok (lk_12_555 ho_348 (x_dk dn_348_0_0_ok 23 rfl))))))
  (e_Tok2
  (e_Tok2
  (e_Tok2
  (e_Lok (ld_aload_n_0 (x_dk dn_348_0_0_ok 24 rfl)))
  (e_Lok (lk_12_592 ho_348 (x_dk dn_348_0_1_ok 0 rfl))))
  (e_Tok2
  (e_Lok (ld_aload_n_0 (x_dk dn_348_0_1_ok 1 rfl)))
  (e_Lok (ld_aload_n_0 (x_dk dn_348_0_1_ok 2 rfl)))))
  (e_Tok2
  (e_Tok2
  (e_Lok (ps_bipush_59 (x_dk dn_348_0_1_ok 3 rfl)))
  (e_Lok (lk_12_586 ho_348 (x_dk dn_348_0_1_ok 4 rfl))))
  (e_Tok2
  (e_Lok (lk_12_555 ho_348 (x_dk dn_348_0_1_ok 5 rfl)))
  (e_Tok2
  (e_Lok (ld_aload_n_0 (x_dk dn_348_0_1_ok 6 rfl)))
  (e_Lok (lk_12_219g ho_348 (x_dk dn_348_0_1_ok 7 rfl)))))))))
def te_348_33 : Nat → eE := (e_T 94 (e_T 74 (e_T 66 (e_T 63 (e_T 62 (e_L 62 (0, ei_load 1 0 63, 0, 0)) (e_L 63 (0, ei_load 0 2 64, 0, 0))) (e_T 64 (e_L 64 (0, ei_push (0, 31) 66, 0, 0)) (e_L 66 (0, ei_push (0, 0) 67, 0, 0)))) (e_T 70 (e_T 67 (e_L 67 (2, e_nof, 336, 3)) (e_L 70 (0, ei_ast elay false 71, 0, 0))) (e_T 71 (e_L 71 (0, ei_goto 0, 0, 0)) (e_L 74 (0, ei_load 0 2 75, 0, 0))))) (e_T 83 (e_T 78 (e_T 75 (e_L 75 (0, ei_getf eft elay 12 85 78, 0, 0)) (e_L 78 (0, ei_push (0, 18) 80, 0, 0))) (e_T 80 (e_L 80 (0, ei_if2 1 90 83, 0, 0)) (e_L 83 (0, ei_load 0 2 84, 0, 0)))) (e_T 87 (e_T 84 (e_L 84 (2, e_nof, 350, 1)) (e_L 87 (0, ei_goto 0, 0, 0))) (e_T 90 (e_L 90 (0, ei_load 0 2 91, 0, 0)) (e_T 91 (e_L 91 (0, ei_getf eft elay 12 85 94, 0, 0)) (e_L 94 (0, ei_push (0, 20) 96, 0, 0))))))) (e_T 112 (e_T 103 (e_T 99 (e_T 96 (e_L 96 (0, ei_if2 1 106 99, 0, 0)) (e_L 99 (0, ei_load 0 2 100, 0, 0))) (e_T 100 (e_L 100 (2, e_nof, 351, 1)) (e_L 103 (0, ei_goto 0, 0, 0)))) (e_T 107 (e_T 106 (e_L 106 (0, ei_load 0 2 107, 0, 0)) (e_L 107 (0, ei_getf eft elay 12 85 110, 0, 0))) (e_T 110 (e_L 110 (0, ei_push (0, 21) 112, 0, 0)) (e_L 112 (0, ei_if2 1 122 115, 0, 0))))) (e_T 122 (e_T 116 (e_T 115 (e_L 115 (0, ei_load 0 2 116, 0, 0)) (e_L 116 (2, e_nof, 352, 1))) (e_T 119 (e_L 119 (0, ei_goto 0, 0, 0)) (e_L 122 (0, ei_load 0 2 123, 0, 0)))) (e_T 124 (e_T 123 (e_L 123 (0, ei_load 0 2 124, 0, 0)) (e_L 124 (0, ei_getf eft elay 12 85 127, 0, 0))) (e_T 127 (e_L 127 (2, e_nof, 349, 2)) (e_T 130 (e_L 130 (0, ei_goto 0, 0, 0)) (e_L 133 (1, e_nof, 0, 0))))))))
set_option maxRecDepth 20000 in
set_option maxHeartbeats 4000000 in
theorem te_348_33_ok : ∀ pc, e_EOq eft cls elay eI n_348 pc (te_348_33 pc) :=
  (e_Tok2
  (e_Tok2
  (e_Tok2
  (e_Tok2
  (e_Tok2
  (e_Lok (ld_iload_n_1 (x_dk dn_348_0_1_ok 8 rfl)))
  (e_Lok (ld_aload_n_0 (x_dk dn_348_0_1_ok 9 rfl))))
  (e_Tok2
  (e_Lok (ps_bipush_31 (x_dk dn_348_0_1_ok 10 rfl)))
  (e_Lok (ps_iconst_0 (x_dk dn_348_0_1_ok 11 rfl)))))
  (e_Tok2
  (e_Tok2
  (e_Lok (lk_12_565 ho_348 (x_dk dn_348_0_1_ok 12 rfl)))
  (e_Lok (sm_iastore (x_dk dn_348_0_1_ok 13 rfl))))
  (e_Tok2
  (e_Lok (e_st (I := eI) (er_goto (off := (-71)) (tg := 0) (x_dk dn_348_0_1_ok 14 rfl) (by decide)) nx_goto))
  (e_Lok (ld_aload_n_0 (x_dk dn_348_0_1_ok 15 rfl))))))
  (e_Tok2
  (e_Tok2
  (e_Tok2
  (e_Lok (lk_12_494g ho_348 (x_dk dn_348_0_1_ok 16 rfl)))
  (e_Lok (ps_bipush_18 (x_dk dn_348_0_1_ok 17 rfl))))
  (e_Tok2
  (e_Lok (e_st (I := eI) (er_icmpne (off := 10) (tg := 90) (x_dk dn_348_0_1_ok 18 rfl) (by decide)) nx_if2))
  (e_Lok (ld_aload_n_0 (x_dk dn_348_0_1_ok 19 rfl)))))
  (e_Tok2
  (e_Tok2
  (e_Lok (lk_12_608 ho_348 (x_dk dn_348_0_1_ok 20 rfl)))
  (e_Lok (e_st (I := eI) (er_goto (off := (-87)) (tg := 0) (x_dk dn_348_0_1_ok 21 rfl) (by decide)) nx_goto)))
  (e_Tok2
  (e_Lok (ld_aload_n_0 (x_dk dn_348_0_1_ok 22 rfl)))
  (e_Tok2
  (e_Lok (lk_12_494g ho_348 (x_dk dn_348_0_1_ok 23 rfl)))
  (e_Lok (ps_bipush_20 (x_dk dn_348_0_1_ok 24 rfl))))))))
  (e_Tok2
  (e_Tok2
  (e_Tok2
  (e_Tok2
  (e_Lok (e_st (I := eI) (er_icmpne (off := 10) (tg := 106) (x_dk dn_348_0_2_ok 0 rfl) (by decide)) nx_if2))
  (e_Lok (ld_aload_n_0 (x_dk dn_348_0_2_ok 1 rfl))))
  (e_Tok2
  (e_Lok (lk_12_611 ho_348 (x_dk dn_348_0_2_ok 2 rfl)))
  (e_Lok (e_st (I := eI) (er_goto (off := (-103)) (tg := 0) (x_dk dn_348_0_2_ok 3 rfl) (by decide)) nx_goto))))
  (e_Tok2
  (e_Tok2
  (e_Lok (ld_aload_n_0 (x_dk dn_348_0_2_ok 4 rfl)))
  (e_Lok (lk_12_494g ho_348 (x_dk dn_348_0_2_ok 5 rfl))))
  (e_Tok2
  (e_Lok (ps_bipush_21 (x_dk dn_348_0_2_ok 6 rfl)))
  (e_Lok (e_st (I := eI) (er_icmpne (off := 10) (tg := 122) (x_dk dn_348_0_2_ok 7 rfl) (by decide)) nx_if2)))))
  (e_Tok2
  (e_Tok2
  (e_Tok2
  (e_Lok (ld_aload_n_0 (x_dk dn_348_0_2_ok 8 rfl)))
  (e_Lok (lk_12_614 ho_348 (x_dk dn_348_0_2_ok 9 rfl))))
  (e_Tok2
  (e_Lok (e_st (I := eI) (er_goto (off := (-119)) (tg := 0) (x_dk dn_348_0_2_ok 10 rfl) (by decide)) nx_goto))
  (e_Lok (ld_aload_n_0 (x_dk dn_348_0_2_ok 11 rfl)))))
  (e_Tok2
  (e_Tok2
  (e_Lok (ld_aload_n_0 (x_dk dn_348_0_2_ok 12 rfl)))
  (e_Lok (lk_12_494g ho_348 (x_dk dn_348_0_2_ok 13 rfl))))
  (e_Tok2
  (e_Lok (lk_12_617 ho_348 (x_dk dn_348_0_2_ok 14 rfl)))
  (e_Tok2
  (e_Lok (e_st (I := eI) (er_goto (off := (-130)) (tg := 0) (x_dk dn_348_0_2_ok 15 rfl) (by decide)) nx_goto))
  (e_Lok (e_rt (I := eI) (k := 0) ⟨(x_dk dn_348_0_2_ok 16 rfl), rfl⟩))))))))
def te_348 : Nat → eE := (e_T 59 te_348_0 te_348_33)
theorem te_348_ok : ∀ pc, e_EOq eft cls elay eI n_348 pc (te_348 pc) := (e_Tok2 (te_348_0_ok) (te_348_33_ok))
theorem ho_349 : (xm_y n_349).cls = "RobotCellHouseModel" := rfl
def dn_349_0_0 : List (Nat × Instr × Nat) := [(0, .aload_n 0, 1), (1, .bipush 30, 2), (3, .iconst 0, 1), (4, .invokevirtual 565, 3), (7, .pop, 1), (8, .aload_n 0, 1), (9, .getfield 546, 3), (12, .istore_n 2, 1), (13, .iload_n 1, 1), (14, .bipush 17, 2), (16, .if_icmp .ne 53, 3), (19, .aload_n 0, 1), (20, .getfield 620, 3), (23, .ifCond .ge 46, 3), (26, .aload_n 0, 1), (27, .getfield 210, 3), (30, .aload_n 0, 1), (31, .getfield 552, 3), (34, .iconst 4, 1), (35, .iastore, 1), (36, .aload_n 0, 1), (37, .getfield 213, 3), (40, .aload_n 0, 1), (41, .getfield 552, 3), (44, .aload_n 0, 1)]
set_option maxRecDepth 20000 in
theorem dn_349_0_0_ok : dn_349_0_0.all (fun q => decide (decode (xm_b n_349) q.1 = .ok (q.2.1, q.2.2))) = true := xa_g_ok (by decide +kernel)
def dn_349_0_1 : List (Nat × Instr × Nat) := [(45, .getfield 491, 3), (48, .iastore, 1), (49, .aload_n 0, 1), (50, .getfield 216, 3), (53, .aload_n 0, 1), (54, .getfield 552, 3), (57, .iconst 5, 1), (58, .iastore, 1), (59, .aload_n 0, 1), (60, .dup, 1), (61, .getfield 552, 3), (64, .iconst 1, 1), (65, .iadd, 1), (66, .putfield 552, 3), (69, .aload_n 0, 1), (70, .invokevirtual 536, 3), (73, .iload_n 1, 1), (74, .tableswitch 256 3 17 #[74, 256, 256, 121, 256, 256, 150, 165, 256, 256, 209, 220, 180, 231, 242], 74), (148, .aload_n 0, 1), (149, .invokevirtual 592, 3), (152, .iconst 1, 1), (153, .istore_n 3, 1), (154, .aload_n 0, 1), (155, .getfield 530, 3), (158, .ifCond .ne 26, 3)]
set_option maxRecDepth 20000 in
theorem dn_349_0_1_ok : dn_349_0_1.all (fun q => decide (decode (xm_b n_349) q.1 = .ok (q.2.1, q.2.2))) = true := xa_g_ok (by decide +kernel)
def dn_349_0_2 : List (Nat × Instr × Nat) := [(161, .aload_n 0, 1), (162, .bipush 44, 2), (164, .invokevirtual 586, 3), (167, .ifCond .eq 17, 3), (170, .aload_n 0, 1), (171, .invokevirtual 536, 3), (174, .aload_n 0, 1), (175, .invokevirtual 592, 3), (178, .iinc 3 1, 3), (181, .goto (-27), 3), (184, .aload_n 0, 1), (185, .bipush 32, 2), (187, .iload_n 3, 1), (188, .invokevirtual 565, 3), (191, .pop, 1), (192, .goto 203, 3), (195, .aload_n 0, 1), (196, .invokevirtual 592, 3), (199, .aload_n 0, 1), (200, .aload_n 0, 1), (201, .bipush 44, 2), (203, .invokevirtual 586, 3), (206, .invokevirtual 555, 3), (209, .aload_n 0, 1), (210, .invokevirtual 592, 3)]
set_option maxRecDepth 20000 in
theorem dn_349_0_2_ok : dn_349_0_2.all (fun q => decide (decode (xm_b n_349) q.1 = .ok (q.2.1, q.2.2))) = true := xa_g_ok (by decide +kernel)
def dn_349_0_3 : List (Nat × Instr × Nat) := [(213, .aload_n 0, 1), (214, .bipush 35, 2), (216, .iconst 0, 1), (217, .invokevirtual 565, 3), (220, .pop, 1), (221, .goto 174, 3), (224, .aload_n 0, 1), (225, .iconst 3, 1), (226, .aload_n 0, 1), (227, .bipush 38, 2), (229, .iconst 0, 1), (230, .invokevirtual 565, 3), (233, .invokevirtual 595, 3), (236, .goto 159, 3), (239, .aload_n 0, 1), (240, .iconst 3, 1), (241, .aload_n 0, 1), (242, .bipush 39, 2), (244, .iconst 0, 1), (245, .invokevirtual 565, 3), (248, .invokevirtual 595, 3), (251, .goto 144, 3), (254, .aload_n 0, 1), (255, .invokevirtual 592, 3), (258, .aload_n 0, 1)]
set_option maxRecDepth 20000 in
theorem dn_349_0_3_ok : dn_349_0_3.all (fun q => decide (decode (xm_b n_349) q.1 = .ok (q.2.1, q.2.2))) = true := xa_g_ok (by decide +kernel)
def dn_349_1_0 : List (Nat × Instr × Nat) := [(259, .aload_n 0, 1), (260, .bipush 44, 2), (262, .invokevirtual 586, 3), (265, .invokevirtual 555, 3), (268, .aload_n 0, 1), (269, .iconst 3, 1), (270, .aload_n 0, 1), (271, .bipush 44, 2), (273, .iconst 0, 1), (274, .invokevirtual 565, 3), (277, .invokevirtual 595, 3), (280, .goto 115, 3), (283, .aload_n 0, 1), (284, .bipush 42, 2), (286, .iconst 0, 1), (287, .invokevirtual 565, 3), (290, .pop, 1), (291, .goto 104, 3), (294, .aload_n 0, 1), (295, .bipush 43, 2), (297, .iconst 0, 1), (298, .invokevirtual 565, 3), (301, .pop, 1), (302, .goto 93, 3), (305, .aload_n 0, 1)]
set_option maxRecDepth 20000 in
theorem dn_349_1_0_ok : dn_349_1_0.all (fun q => decide (decode (xm_b n_349) q.1 = .ok (q.2.1, q.2.2))) = true := xa_g_ok (by decide +kernel)
def dn_349_1_1 : List (Nat × Instr × Nat) := [(306, .bipush 45, 2), (308, .iconst 0, 1), (309, .invokevirtual 565, 3), (312, .pop, 1), (313, .goto 82, 3), (316, .aload_n 0, 1), (317, .bipush 46, 2), (319, .aload_n 0, 1), (320, .getfield 620, 3), (323, .invokevirtual 565, 3), (326, .pop, 1), (327, .goto 68, 3), (330, .aload_n 0, 1), (331, .invokevirtual 592, 3), (334, .aload_n 0, 1), (335, .iload_n 1, 1), (336, .iconst 4, 1), (337, .if_icmp .ne 8, 3), (340, .bipush 33, 2), (342, .goto 48, 3), (345, .iload_n 1, 1), (346, .iconst 5, 1), (347, .if_icmp .ne 8, 3), (350, .bipush 34, 2), (352, .goto 38, 3)]
set_option maxRecDepth 20000 in
theorem dn_349_1_1_ok : dn_349_1_1.all (fun q => decide (decode (xm_b n_349) q.1 = .ok (q.2.1, q.2.2))) = true := xa_g_ok (by decide +kernel)
def dn_349_1_2 : List (Nat × Instr × Nat) := [(355, .iload_n 1, 1), (356, .bipush 7, 2), (358, .if_icmp .ne 8, 3), (361, .bipush 36, 2), (363, .goto 27, 3), (366, .iload_n 1, 1), (367, .bipush 8, 2), (369, .if_icmp .ne 8, 3), (372, .bipush 37, 2), (374, .goto 16, 3), (377, .iload_n 1, 1), (378, .bipush 11, 2), (380, .if_icmp .ne 8, 3), (383, .bipush 40, 2), (385, .goto 5, 3), (388, .bipush 41, 2), (390, .iload_n 2, 1), (391, .invokevirtual 565, 3), (394, .pop, 1), (395, .aload_n 0, 1), (396, .aload_n 0, 1), (397, .bipush 59, 2), (399, .invokevirtual 586, 3), (402, .invokevirtual 555, 3), (405, .return_, 1)]
set_option maxRecDepth 20000 in
theorem dn_349_1_2_ok : dn_349_1_2.all (fun q => decide (decode (xm_b n_349) q.1 = .ok (q.2.1, q.2.2))) = true := xa_g_ok (by decide +kernel)
def te_349_0 : Nat → eE := (e_T 14 (e_T 7 (e_T 1 (e_T 0 (e_L 0 (0, ei_load 0 2 1, 0, 0)) (e_L 1 (0, ei_push (0, 30) 3, 0, 0))) (e_T 3 (e_L 3 (0, ei_push (0, 0) 4, 0, 0)) (e_T 4 (e_L 4 (2, e_nof, 336, 3)) (e_L 7 (0, ei_stk ef_pop 8, 0, 0))))) (e_T 9 (e_T 8 (e_L 8 (0, ei_load 0 2 9, 0, 0)) (e_L 9 (0, ei_getf eft elay 12 78 12, 0, 0))) (e_T 12 (e_L 12 (0, ei_stor 2 0 13, 0, 0)) (e_T 13 (e_L 13 (0, ei_load 1 0 14, 0, 0)) (e_L 14 (0, ei_push (0, 17) 16, 0, 0)))))) (e_T 26 (e_T 19 (e_T 16 (e_L 16 (0, ei_if2 1 69 19, 0, 0)) (e_L 19 (0, ei_load 0 2 20, 0, 0))) (e_T 20 (e_L 20 (0, ei_getf eft elay 12 82 23, 0, 0)) (e_T 23 (e_L 23 (0, ei_if1 3 69 26, 0, 0)) (e_L 26 (0, ei_load 0 2 27, 0, 0))))) (e_T 31 (e_T 27 (e_L 27 (0, ei_getf eft elay 12 90 30, 0, 0)) (e_T 30 (e_L 30 (0, ei_load 0 2 31, 0, 0)) (e_L 31 (0, ei_getf eft elay 12 94 34, 0, 0)))) (e_T 34 (e_L 34 (0, ei_push (0, 4) 35, 0, 0)) (e_T 35 (e_L 35 (0, ei_ast elay false 36, 0, 0)) (e_L 36 (0, ei_load 0 2 37, 0, 0)))))))
set_option maxRecDepth 20000 in
set_option maxHeartbeats 4000000 in
theorem te_349_0_ok : ∀ pc, e_EOq eft cls elay eI n_349 pc (te_349_0 pc) :=
  (e_Tok2
  (e_Tok2
  (e_Tok2
  (e_Tok2
  (e_Lok (ld_aload_n_0 (x_dk dn_349_0_0_ok 0 rfl)))
  (e_Lok (ps_bipush_30 (x_dk dn_349_0_0_ok 1 rfl))))
  (e_Tok2
  (e_Lok (ps_iconst_0 (x_dk dn_349_0_0_ok 2 rfl)))
  (e_Tok2
  (e_Lok (lk_12_565 ho_349 (x_dk dn_349_0_0_ok 3 rfl)))
  (e_Lok (e_st (I := eI) (er_pop (x_dk dn_349_0_0_ok 4 rfl)) (nx_stk bf_pop))))))
  (e_Tok2
  (e_Tok2
  (e_Lok (ld_aload_n_0 (x_dk dn_349_0_0_ok 5 rfl)))
  (e_Lok (lk_12_546g ho_349 (x_dk dn_349_0_0_ok 6 rfl))))
  (e_Tok2
  (e_Lok (e_st (I := eI) (er_istore_n (i := 2) (x_dk dn_349_0_0_ok 7 rfl) (by decide +kernel)) nx_stor))
  (e_Tok2
  (e_Lok (ld_iload_n_1 (x_dk dn_349_0_0_ok 8 rfl)))
  (e_Lok (ps_bipush_17 (x_dk dn_349_0_0_ok 9 rfl)))))))
  (e_Tok2
  (e_Tok2
  (e_Tok2
  (e_Lok (e_st (I := eI) (er_icmpne (off := 53) (tg := 69) (x_dk dn_349_0_0_ok 10 rfl) (by decide)) nx_if2))
  (e_Lok (ld_aload_n_0 (x_dk dn_349_0_0_ok 11 rfl))))
  (e_Tok2
  (e_Lok (lk_12_620g ho_349 (x_dk dn_349_0_0_ok 12 rfl)))
  (e_Tok2
  (e_Lok (e_st (I := eI) (er_ifge (off := 46) (tg := 69) (x_dk dn_349_0_0_ok 13 rfl) (by decide)) nx_if1))
  (e_Lok (ld_aload_n_0 (x_dk dn_349_0_0_ok 14 rfl))))))
  (e_Tok2
  (e_Tok2
  (e_Lok (lk_12_210g ho_349 (x_dk dn_349_0_0_ok 15 rfl)))
  (e_Tok2
  (e_Lok (ld_aload_n_0 (x_dk dn_349_0_0_ok 16 rfl)))
  (e_Lok (lk_12_552g ho_349 (x_dk dn_349_0_0_ok 17 rfl)))))
  (e_Tok2
  (e_Lok (ps_iconst_4 (x_dk dn_349_0_0_ok 18 rfl)))
  (e_Tok2
  (e_Lok (sm_iastore (x_dk dn_349_0_0_ok 19 rfl)))
  (e_Lok (ld_aload_n_0 (x_dk dn_349_0_0_ok 20 rfl))))))))
def te_349_21 : Nat → eE := (e_T 57 (e_T 45 (e_T 40 (e_T 37 (e_L 37 (0, ei_getf eft elay 12 91 40, 0, 0)) (e_L 40 (0, ei_load 0 2 41, 0, 0))) (e_T 41 (e_L 41 (0, ei_getf eft elay 12 94 44, 0, 0)) (e_T 44 (e_L 44 (0, ei_load 0 2 45, 0, 0)) (e_L 45 (0, ei_getf eft elay 12 86 48, 0, 0))))) (e_T 50 (e_T 48 (e_L 48 (0, ei_ast elay false 49, 0, 0)) (e_T 49 (e_L 49 (0, ei_load 0 2 50, 0, 0)) (e_L 50 (0, ei_getf eft elay 12 92 53, 0, 0)))) (e_T 53 (e_L 53 (0, ei_load 0 2 54, 0, 0)) (e_T 54 (e_L 54 (0, ei_getf eft elay 12 94 57, 0, 0)) (e_L 57 (0, ei_push (0, 5) 58, 0, 0)))))) (e_T 64 (e_T 59 (e_T 58 (e_L 58 (0, ei_ast elay false 59, 0, 0)) (e_L 59 (0, ei_load 0 2 60, 0, 0))) (e_T 60 (e_L 60 (0, ei_stk ef_dup 61, 0, 0)) (e_T 61 (e_L 61 (0, ei_getf eft elay 12 94 64, 0, 0)) (e_L 64 (0, ei_push (0, 1) 65, 0, 0))))) (e_T 69 (e_T 65 (e_L 65 (0, ei_bin eF_add 66, 0, 0)) (e_T 66 (e_L 66 (0, ei_putf eft elay 12 94 0 69, 0, 0)) (e_L 69 (0, ei_load 0 2 70, 0, 0)))) (e_T 70 (e_L 70 (2, e_nof, 327, 1)) (e_T 73 (e_L 73 (0, ei_load 1 0 74, 0, 0)) (e_L 74 (0, ei_sw [((-2147483648), 2, 330), (3, 3, 148), (4, 4, 330), (5, 5, 330), (6, 6, 195), (7, 7, 330), (8, 8, 330), (9, 9, 224), (10, 10, 239), (11, 11, 330), (12, 12, 330), (13, 13, 283), (14, 14, 294), (15, 15, 254), (16, 16, 305), (17, 17, 316), (18, 2147483647, 330)], 0, 0)))))))
set_option maxRecDepth 20000 in
set_option maxHeartbeats 4000000 in
theorem te_349_21_ok : ∀ pc, e_EOq eft cls elay eI n_349 pc (te_349_21 pc) :=
  (e_Tok2
  (e_Tok2
  (e_Tok2
  (e_Tok2
  (e_Lok (lk_12_213g ho_349 (x_dk dn_349_0_0_ok 21 rfl)))
  (e_Lok (ld_aload_n_0 (x_dk dn_349_0_0_ok 22 rfl))))
  (e_Tok2
  (e_Lok (lk_12_552g ho_349 (x_dk dn_349_0_0_ok 23 rfl)))
  (e_Tok2
  (e_Lok (ld_aload_n_0 (x_dk dn_349_0_0_ok 24 rfl)))
  (e_Lok (lk_12_491g ho_349 (x_dk dn_349_0_1_ok 0 rfl))))))
  (e_Tok2
  (e_Tok2
  (e_Lok (sm_iastore (x_dk dn_349_0_1_ok 1 rfl)))
  (e_Tok2
  (e_Lok (ld_aload_n_0 (x_dk dn_349_0_1_ok 2 rfl)))
  (e_Lok (lk_12_216g ho_349 (x_dk dn_349_0_1_ok 3 rfl)))))
  (e_Tok2
  (e_Lok (ld_aload_n_0 (x_dk dn_349_0_1_ok 4 rfl)))
  (e_Tok2
  (e_Lok (lk_12_552g ho_349 (x_dk dn_349_0_1_ok 5 rfl)))
  (e_Lok (ps_iconst_5 (x_dk dn_349_0_1_ok 6 rfl)))))))
  (e_Tok2
  (e_Tok2
  (e_Tok2
  (e_Lok (sm_iastore (x_dk dn_349_0_1_ok 7 rfl)))
  (e_Lok (ld_aload_n_0 (x_dk dn_349_0_1_ok 8 rfl))))
  (e_Tok2
  (e_Lok (e_st (I := eI) (er_dup (x_dk dn_349_0_1_ok 9 rfl)) (nx_stk bf_dup)))
  (e_Tok2
  (e_Lok (lk_12_552g ho_349 (x_dk dn_349_0_1_ok 10 rfl)))
  (e_Lok (ps_iconst_1 (x_dk dn_349_0_1_ok 11 rfl))))))
  (e_Tok2
  (e_Tok2
  (e_Lok (sm_iadd (x_dk dn_349_0_1_ok 12 rfl)))
  (e_Tok2
  (e_Lok (lk_12_552p ho_349 (x_dk dn_349_0_1_ok 13 rfl)))
  (e_Lok (ld_aload_n_0 (x_dk dn_349_0_1_ok 14 rfl)))))
  (e_Tok2
  (e_Lok (lk_12_536 ho_349 (x_dk dn_349_0_1_ok 15 rfl)))
  (e_Tok2
  (e_Lok (ld_iload_n_1 (x_dk dn_349_0_1_ok 16 rfl)))
  (e_Lok (e_st (I := eI) (er_tsw (dflt := 256) (lo := 3) (hi := 17) (offs := #[74, 256, 256, 121, 256, 256, 150, 165, 256, 256, 209, 220, 180, 231, 242]) (len := 74) (n := 15) (x_dk dn_349_0_1_ok 17 rfl) (by decide) (by decide +kernel)) nx_sw)))))))
def te_349_43 : Nat → eE := (e_T 167 (e_T 154 (e_T 149 (e_T 148 (e_L 148 (0, ei_load 0 2 149, 0, 0)) (e_L 149 (2, e_nof, 339, 1))) (e_T 152 (e_L 152 (0, ei_push (0, 1) 153, 0, 0)) (e_T 153 (e_L 153 (0, ei_stor 3 0 154, 0, 0)) (e_L 154 (0, ei_load 0 2 155, 0, 0))))) (e_T 161 (e_T 155 (e_L 155 (0, ei_getf eft elay 12 88 158, 0, 0)) (e_T 158 (e_L 158 (0, ei_if1 1 184 161, 0, 0)) (e_L 161 (0, ei_load 0 2 162, 0, 0)))) (e_T 162 (e_L 162 (0, ei_push (0, 44) 164, 0, 0)) (e_T 164 (e_L 164 (2, e_nof, 331, 2)) (e_L 167 (0, ei_if1 0 184 170, 0, 0)))))) (e_T 178 (e_T 171 (e_T 170 (e_L 170 (0, ei_load 0 2 171, 0, 0)) (e_L 171 (2, e_nof, 327, 1))) (e_T 174 (e_L 174 (0, ei_load 0 2 175, 0, 0)) (e_T 175 (e_L 175 (2, e_nof, 339, 1)) (e_L 178 (0, ei_inc 3 1 181, 0, 0))))) (e_T 185 (e_T 181 (e_L 181 (0, ei_goto 154, 0, 0)) (e_T 184 (e_L 184 (0, ei_load 0 2 185, 0, 0)) (e_L 185 (0, ei_push (0, 32) 187, 0, 0)))) (e_T 187 (e_L 187 (0, ei_load 3 0 188, 0, 0)) (e_T 188 (e_L 188 (2, e_nof, 336, 3)) (e_L 191 (0, ei_stk ef_pop 192, 0, 0)))))))
set_option maxRecDepth 20000 in
set_option maxHeartbeats 4000000 in
theorem te_349_43_ok : ∀ pc, e_EOq eft cls elay eI n_349 pc (te_349_43 pc) :=
  (e_Tok2
  (e_Tok2
  (e_Tok2
  (e_Tok2
  (e_Lok (ld_aload_n_0 (x_dk dn_349_0_1_ok 18 rfl)))
  (e_Lok (lk_12_592 ho_349 (x_dk dn_349_0_1_ok 19 rfl))))
  (e_Tok2
  (e_Lok (ps_iconst_1 (x_dk dn_349_0_1_ok 20 rfl)))
  (e_Tok2
  (e_Lok (e_st (I := eI) (er_istore_n (i := 3) (x_dk dn_349_0_1_ok 21 rfl) (by decide +kernel)) nx_stor))
  (e_Lok (ld_aload_n_0 (x_dk dn_349_0_1_ok 22 rfl))))))
  (e_Tok2
  (e_Tok2
  (e_Lok (lk_12_530g ho_349 (x_dk dn_349_0_1_ok 23 rfl)))
  (e_Tok2
  (e_Lok (e_st (I := eI) (er_ifne (off := 26) (tg := 184) (x_dk dn_349_0_1_ok 24 rfl) (by decide)) nx_if1))
  (e_Lok (ld_aload_n_0 (x_dk dn_349_0_2_ok 0 rfl)))))
  (e_Tok2
  (e_Lok (ps_bipush_44 (x_dk dn_349_0_2_ok 1 rfl)))
  (e_Tok2
  (e_Lok (lk_12_586 ho_349 (x_dk dn_349_0_2_ok 2 rfl)))
  (e_Lok (e_st (I := eI) (er_ifeq (off := 17) (tg := 184) (x_dk dn_349_0_2_ok 3 rfl) (by decide)) nx_if1))))))
  (e_Tok2
  (e_Tok2
  (e_Tok2
  (e_Lok (ld_aload_n_0 (x_dk dn_349_0_2_ok 4 rfl)))
  (e_Lok (lk_12_536 ho_349 (x_dk dn_349_0_2_ok 5 rfl))))
  (e_Tok2
  (e_Lok (ld_aload_n_0 (x_dk dn_349_0_2_ok 6 rfl)))
  (e_Tok2
  (e_Lok (lk_12_592 ho_349 (x_dk dn_349_0_2_ok 7 rfl)))
  (e_Lok (e_st (I := eI) (er_iinc (i := 3) (n := 1) (x_dk dn_349_0_2_ok 8 rfl) (by decide +kernel) (by decide)) nx_inc)))))
  (e_Tok2
  (e_Tok2
  (e_Lok (e_st (I := eI) (er_goto (off := (-27)) (tg := 154) (x_dk dn_349_0_2_ok 9 rfl) (by decide)) nx_goto))
  (e_Tok2
  (e_Lok (ld_aload_n_0 (x_dk dn_349_0_2_ok 10 rfl)))
  (e_Lok (ps_bipush_32 (x_dk dn_349_0_2_ok 11 rfl)))))
  (e_Tok2
  (e_Lok (ld_iload_n_3 (x_dk dn_349_0_2_ok 12 rfl)))
  (e_Tok2
  (e_Lok (lk_12_565 ho_349 (x_dk dn_349_0_2_ok 13 rfl)))
  (e_Lok (e_st (I := eI) (er_pop (x_dk dn_349_0_2_ok 14 rfl)) (nx_stk bf_pop))))))))
def te_349_65 : Nat → eE := (e_T 213 (e_T 200 (e_T 195 (e_T 192 (e_L 192 (0, ei_goto 395, 0, 0)) (e_L 195 (0, ei_load 0 2 196, 0, 0))) (e_T 196 (e_L 196 (2, e_nof, 339, 1)) (e_T 199 (e_L 199 (0, ei_load 0 2 200, 0, 0)) (e_L 200 (0, ei_load 0 2 201, 0, 0))))) (e_T 206 (e_T 201 (e_L 201 (0, ei_push (0, 44) 203, 0, 0)) (e_T 203 (e_L 203 (2, e_nof, 331, 2)) (e_L 206 (2, e_nof, 334, 2)))) (e_T 209 (e_L 209 (0, ei_load 0 2 210, 0, 0)) (e_T 210 (e_L 210 (2, e_nof, 339, 1)) (e_L 213 (0, ei_load 0 2 214, 0, 0)))))) (e_T 221 (e_T 216 (e_T 214 (e_L 214 (0, ei_push (0, 35) 216, 0, 0)) (e_L 216 (0, ei_push (0, 0) 217, 0, 0))) (e_T 217 (e_L 217 (2, e_nof, 336, 3)) (e_T 220 (e_L 220 (0, ei_stk ef_pop 221, 0, 0)) (e_L 221 (0, ei_goto 395, 0, 0))))) (e_T 226 (e_T 224 (e_L 224 (0, ei_load 0 2 225, 0, 0)) (e_T 225 (e_L 225 (0, ei_push (0, 3) 226, 0, 0)) (e_L 226 (0, ei_load 0 2 227, 0, 0)))) (e_T 227 (e_L 227 (0, ei_push (0, 38) 229, 0, 0)) (e_T 229 (e_L 229 (0, ei_push (0, 0) 230, 0, 0)) (e_L 230 (2, e_nof, 336, 3)))))))
set_option maxRecDepth 20000 in
set_option maxHeartbeats 4000000 in
theorem te_349_65_ok : ∀ pc, e_EOq eft cls elay eI n_349 pc (te_349_65 pc) :=
  (e_Tok2
  (e_Tok2
  (e_Tok2
  (e_Tok2
  (e_Lok (e_st (I := eI) (er_goto (off := 203) (tg := 395) (x_dk dn_349_0_2_ok 15 rfl) (by decide)) nx_goto))
  (e_Lok (ld_aload_n_0 (x_dk dn_349_0_2_ok 16 rfl))))
  (e_Tok2
  (e_Lok (lk_12_592 ho_349 (x_dk dn_349_0_2_ok 17 rfl)))
  (e_Tok2
  (e_Lok (ld_aload_n_0 (x_dk dn_349_0_2_ok 18 rfl)))
  (e_Lok (ld_aload_n_0 (x_dk dn_349_0_2_ok 19 rfl))))))
  (e_Tok2
  (e_Tok2
  (e_Lok (ps_bipush_44 (x_dk dn_349_0_2_ok 20 rfl)))
  (e_Tok2
  (e_Lok (lk_12_586 ho_349 (x_dk dn_349_0_2_ok 21 rfl)))
  (e_Lok (lk_12_555 ho_349 (x_dk dn_349_0_2_ok 22 rfl)))))
  (e_Tok2
  (e_Lok (ld_aload_n_0 (x_dk dn_349_0_2_ok 23 rfl)))
  (e_Tok2
  (e_Lok (lk_12_592 ho_349 (x_dk dn_349_0_2_ok 24 rfl)))
  (e_Lok (ld_aload_n_0 (x_dk dn_349_0_3_ok 0 rfl)))))))
  (e_Tok2
  (e_Tok2
  (e_Tok2
  (e_Lok (ps_bipush_35 (x_dk dn_349_0_3_ok 1 rfl)))
  (e_Lok (ps_iconst_0 (x_dk dn_349_0_3_ok 2 rfl))))
  (e_Tok2
  (e_Lok (lk_12_565 ho_349 (x_dk dn_349_0_3_ok 3 rfl)))
  (e_Tok2
  (e_Lok (e_st (I := eI) (er_pop (x_dk dn_349_0_3_ok 4 rfl)) (nx_stk bf_pop)))
  (e_Lok (e_st (I := eI) (er_goto (off := 174) (tg := 395) (x_dk dn_349_0_3_ok 5 rfl) (by decide)) nx_goto)))))
  (e_Tok2
  (e_Tok2
  (e_Lok (ld_aload_n_0 (x_dk dn_349_0_3_ok 6 rfl)))
  (e_Tok2
  (e_Lok (ps_iconst_3 (x_dk dn_349_0_3_ok 7 rfl)))
  (e_Lok (ld_aload_n_0 (x_dk dn_349_0_3_ok 8 rfl)))))
  (e_Tok2
  (e_Lok (ps_bipush_38 (x_dk dn_349_0_3_ok 9 rfl)))
  (e_Tok2
  (e_Lok (ps_iconst_0 (x_dk dn_349_0_3_ok 10 rfl)))
  (e_Lok (lk_12_565 ho_349 (x_dk dn_349_0_3_ok 11 rfl))))))))
def te_349_87 : Nat → eE := (e_T 254 (e_T 241 (e_T 236 (e_T 233 (e_L 233 (2, e_nof, 338, 3)) (e_L 236 (0, ei_goto 395, 0, 0))) (e_T 239 (e_L 239 (0, ei_load 0 2 240, 0, 0)) (e_T 240 (e_L 240 (0, ei_push (0, 3) 241, 0, 0)) (e_L 241 (0, ei_load 0 2 242, 0, 0))))) (e_T 245 (e_T 242 (e_L 242 (0, ei_push (0, 39) 244, 0, 0)) (e_T 244 (e_L 244 (0, ei_push (0, 0) 245, 0, 0)) (e_L 245 (2, e_nof, 336, 3)))) (e_T 248 (e_L 248 (2, e_nof, 338, 3)) (e_T 251 (e_L 251 (0, ei_goto 395, 0, 0)) (e_L 254 (0, ei_load 0 2 255, 0, 0)))))) (e_T 262 (e_T 258 (e_T 255 (e_L 255 (2, e_nof, 339, 1)) (e_L 258 (0, ei_load 0 2 259, 0, 0))) (e_T 259 (e_L 259 (0, ei_load 0 2 260, 0, 0)) (e_T 260 (e_L 260 (0, ei_push (0, 44) 262, 0, 0)) (e_L 262 (2, e_nof, 331, 2))))) (e_T 269 (e_T 265 (e_L 265 (2, e_nof, 334, 2)) (e_T 268 (e_L 268 (0, ei_load 0 2 269, 0, 0)) (e_L 269 (0, ei_push (0, 3) 270, 0, 0)))) (e_T 270 (e_L 270 (0, ei_load 0 2 271, 0, 0)) (e_T 271 (e_L 271 (0, ei_push (0, 44) 273, 0, 0)) (e_L 273 (0, ei_push (0, 0) 274, 0, 0)))))))
set_option maxRecDepth 20000 in
set_option maxHeartbeats 4000000 in
theorem te_349_87_ok : ∀ pc, e_EOq eft cls elay eI n_349 pc (te_349_87 pc) :=
  (e_Tok2
  (e_Tok2
  (e_Tok2
  (e_Tok2
  (e_Lok (lk_12_595 ho_349 (x_dk dn_349_0_3_ok 12 rfl)))
  (e_Lok (e_st (I := eI) (er_goto (off := 159) (tg := 395) (x_dk dn_349_0_3_ok 13 rfl) (by decide)) nx_goto)))
  (e_Tok2
  (e_Lok (ld_aload_n_0 (x_dk dn_349_0_3_ok 14 rfl)))
  (e_Tok2
  (e_Lok (ps_iconst_3 (x_dk dn_349_0_3_ok 15 rfl)))
  (e_Lok (ld_aload_n_0 (x_dk dn_349_0_3_ok 16 rfl))))))
  (e_Tok2
  (e_Tok2
  (e_Lok (ps_bipush_39 (x_dk dn_349_0_3_ok 17 rfl)))
  (e_Tok2
  (e_Lok (ps_iconst_0 (x_dk dn_349_0_3_ok 18 rfl)))
  (e_Lok (lk_12_565 ho_349 (x_dk dn_349_0_3_ok 19 rfl)))))
  (e_Tok2
  (e_Lok (lk_12_595 ho_349 (x_dk dn_349_0_3_ok 20 rfl)))
  (e_Tok2
  (e_Lok (e_st (I := eI) (er_goto (off := 144) (tg := 395) (x_dk dn_349_0_3_ok 21 rfl) (by decide)) nx_goto))
  (e_Lok (ld_aload_n_0 (x_dk dn_349_0_3_ok 22 rfl)))))))
  (e_Tok2
  (e_Tok2
  (e_Tok2
  (e_Lok (lk_12_592 ho_349 (x_dk dn_349_0_3_ok 23 rfl)))
  (e_Lok (ld_aload_n_0 (x_dk dn_349_0_3_ok 24 rfl))))
  (e_Tok2
  (e_Lok (ld_aload_n_0 (x_dk dn_349_1_0_ok 0 rfl)))
  (e_Tok2
  (e_Lok (ps_bipush_44 (x_dk dn_349_1_0_ok 1 rfl)))
  (e_Lok (lk_12_586 ho_349 (x_dk dn_349_1_0_ok 2 rfl))))))
  (e_Tok2
  (e_Tok2
  (e_Lok (lk_12_555 ho_349 (x_dk dn_349_1_0_ok 3 rfl)))
  (e_Tok2
  (e_Lok (ld_aload_n_0 (x_dk dn_349_1_0_ok 4 rfl)))
  (e_Lok (ps_iconst_3 (x_dk dn_349_1_0_ok 5 rfl)))))
  (e_Tok2
  (e_Lok (ld_aload_n_0 (x_dk dn_349_1_0_ok 6 rfl)))
  (e_Tok2
  (e_Lok (ps_bipush_44 (x_dk dn_349_1_0_ok 7 rfl)))
  (e_Lok (ps_iconst_0 (x_dk dn_349_1_0_ok 8 rfl))))))))
def te_349_109 : Nat → eE := (e_T 295 (e_T 284 (e_T 277 (e_T 274 (e_L 274 (2, e_nof, 336, 3)) (e_L 277 (2, e_nof, 338, 3))) (e_T 280 (e_L 280 (0, ei_goto 395, 0, 0)) (e_T 283 (e_L 283 (0, ei_load 0 2 284, 0, 0)) (e_L 284 (0, ei_push (0, 42) 286, 0, 0))))) (e_T 290 (e_T 286 (e_L 286 (0, ei_push (0, 0) 287, 0, 0)) (e_T 287 (e_L 287 (2, e_nof, 336, 3)) (e_L 290 (0, ei_stk ef_pop 291, 0, 0)))) (e_T 291 (e_L 291 (0, ei_goto 395, 0, 0)) (e_T 294 (e_L 294 (0, ei_load 0 2 295, 0, 0)) (e_L 295 (0, ei_push (0, 43) 297, 0, 0)))))) (e_T 305 (e_T 298 (e_T 297 (e_L 297 (0, ei_push (0, 0) 298, 0, 0)) (e_L 298 (2, e_nof, 336, 3))) (e_T 301 (e_L 301 (0, ei_stk ef_pop 302, 0, 0)) (e_T 302 (e_L 302 (0, ei_goto 395, 0, 0)) (e_L 305 (0, ei_load 0 2 306, 0, 0))))) (e_T 309 (e_T 306 (e_L 306 (0, ei_push (0, 45) 308, 0, 0)) (e_T 308 (e_L 308 (0, ei_push (0, 0) 309, 0, 0)) (e_L 309 (2, e_nof, 336, 3)))) (e_T 312 (e_L 312 (0, ei_stk ef_pop 313, 0, 0)) (e_T 313 (e_L 313 (0, ei_goto 395, 0, 0)) (e_L 316 (0, ei_load 0 2 317, 0, 0)))))))
set_option maxRecDepth 20000 in
set_option maxHeartbeats 4000000 in
theorem te_349_109_ok : ∀ pc, e_EOq eft cls elay eI n_349 pc (te_349_109 pc) :=
  (e_Tok2
  (e_Tok2
  (e_Tok2
  (e_Tok2
  (e_Lok (lk_12_565 ho_349 (x_dk dn_349_1_0_ok 9 rfl)))
  (e_Lok (lk_12_595 ho_349 (x_dk dn_349_1_0_ok 10 rfl))))
  (e_Tok2
  (e_Lok (e_st (I := eI) (er_goto (off := 115) (tg := 395) (x_dk dn_349_1_0_ok 11 rfl) (by decide)) nx_goto))
  (e_Tok2
  (e_Lok (ld_aload_n_0 (x_dk dn_349_1_0_ok 12 rfl)))
  (e_Lok (ps_bipush_42 (x_dk dn_349_1_0_ok 13 rfl))))))
  (e_Tok2
  (e_Tok2
  (e_Lok (ps_iconst_0 (x_dk dn_349_1_0_ok 14 rfl)))
  (e_Tok2
  (e_Lok (lk_12_565 ho_349 (x_dk dn_349_1_0_ok 15 rfl)))
  (e_Lok (e_st (I := eI) (er_pop (x_dk dn_349_1_0_ok 16 rfl)) (nx_stk bf_pop)))))
  (e_Tok2
  (e_Lok (e_st (I := eI) (er_goto (off := 104) (tg := 395) (x_dk dn_349_1_0_ok 17 rfl) (by decide)) nx_goto))
  (e_Tok2
  (e_Lok (ld_aload_n_0 (x_dk dn_349_1_0_ok 18 rfl)))
  (e_Lok (ps_bipush_43 (x_dk dn_349_1_0_ok 19 rfl)))))))
  (e_Tok2
  (e_Tok2
  (e_Tok2
  (e_Lok (ps_iconst_0 (x_dk dn_349_1_0_ok 20 rfl)))
  (e_Lok (lk_12_565 ho_349 (x_dk dn_349_1_0_ok 21 rfl))))
  (e_Tok2
  (e_Lok (e_st (I := eI) (er_pop (x_dk dn_349_1_0_ok 22 rfl)) (nx_stk bf_pop)))
  (e_Tok2
  (e_Lok (e_st (I := eI) (er_goto (off := 93) (tg := 395) (x_dk dn_349_1_0_ok 23 rfl) (by decide)) nx_goto))
  (e_Lok (ld_aload_n_0 (x_dk dn_349_1_0_ok 24 rfl))))))
  (e_Tok2
  (e_Tok2
  (e_Lok (ps_bipush_45 (x_dk dn_349_1_1_ok 0 rfl)))
  (e_Tok2
  (e_Lok (ps_iconst_0 (x_dk dn_349_1_1_ok 1 rfl)))
  (e_Lok (lk_12_565 ho_349 (x_dk dn_349_1_1_ok 2 rfl)))))
  (e_Tok2
  (e_Lok (e_st (I := eI) (er_pop (x_dk dn_349_1_1_ok 3 rfl)) (nx_stk bf_pop)))
  (e_Tok2
  (e_Lok (e_st (I := eI) (er_goto (off := 82) (tg := 395) (x_dk dn_349_1_1_ok 4 rfl) (by decide)) nx_goto))
  (e_Lok (ld_aload_n_0 (x_dk dn_349_1_1_ok 5 rfl))))))))
def te_349_131 : Nat → eE := (e_T 336 (e_T 326 (e_T 319 (e_T 317 (e_L 317 (0, ei_push (0, 46) 319, 0, 0)) (e_L 319 (0, ei_load 0 2 320, 0, 0))) (e_T 320 (e_L 320 (0, ei_getf eft elay 12 82 323, 0, 0)) (e_T 323 (e_L 323 (2, e_nof, 336, 3)) (e_L 326 (0, ei_stk ef_pop 327, 0, 0))))) (e_T 331 (e_T 327 (e_L 327 (0, ei_goto 395, 0, 0)) (e_T 330 (e_L 330 (0, ei_load 0 2 331, 0, 0)) (e_L 331 (2, e_nof, 339, 1)))) (e_T 334 (e_L 334 (0, ei_load 0 2 335, 0, 0)) (e_T 335 (e_L 335 (0, ei_load 1 0 336, 0, 0)) (e_L 336 (0, ei_push (0, 4) 337, 0, 0)))))) (e_T 346 (e_T 340 (e_T 337 (e_L 337 (0, ei_if2 1 345 340, 0, 0)) (e_L 340 (0, ei_push (0, 33) 342, 0, 0))) (e_T 342 (e_L 342 (0, ei_goto 390, 0, 0)) (e_T 345 (e_L 345 (0, ei_load 1 0 346, 0, 0)) (e_L 346 (0, ei_push (0, 5) 347, 0, 0))))) (e_T 352 (e_T 347 (e_L 347 (0, ei_if2 1 355 350, 0, 0)) (e_T 350 (e_L 350 (0, ei_push (0, 34) 352, 0, 0)) (e_L 352 (0, ei_goto 390, 0, 0)))) (e_T 355 (e_L 355 (0, ei_load 1 0 356, 0, 0)) (e_T 356 (e_L 356 (0, ei_push (0, 7) 358, 0, 0)) (e_L 358 (0, ei_if2 1 366 361, 0, 0)))))))
set_option maxRecDepth 20000 in
set_option maxHeartbeats 4000000 in
theorem te_349_131_ok : ∀ pc, e_EOq eft cls elay eI n_349 pc (te_349_131 pc) :=
  (e_Tok2
  (e_Tok2
  (e_Tok2
  (e_Tok2
  (e_Lok (ps_bipush_46 (x_dk dn_349_1_1_ok 6 rfl)))
  (e_Lok (ld_aload_n_0 (x_dk dn_349_1_1_ok 7 rfl))))
  (e_Tok2
  (e_Lok (lk_12_620g ho_349 (x_dk dn_349_1_1_ok 8 rfl)))
  (e_Tok2
  (e_Lok (lk_12_565 ho_349 (x_dk dn_349_1_1_ok 9 rfl)))
  (e_Lok (e_st (I := eI) (er_pop (x_dk dn_349_1_1_ok 10 rfl)) (nx_stk bf_pop))))))
  (e_Tok2
  (e_Tok2
  (e_Lok (e_st (I := eI) (er_goto (off := 68) (tg := 395) (x_dk dn_349_1_1_ok 11 rfl) (by decide)) nx_goto))
  (e_Tok2
  (e_Lok (ld_aload_n_0 (x_dk dn_349_1_1_ok 12 rfl)))
  (e_Lok (lk_12_592 ho_349 (x_dk dn_349_1_1_ok 13 rfl)))))
  (e_Tok2
  (e_Lok (ld_aload_n_0 (x_dk dn_349_1_1_ok 14 rfl)))
  (e_Tok2
  (e_Lok (ld_iload_n_1 (x_dk dn_349_1_1_ok 15 rfl)))
  (e_Lok (ps_iconst_4 (x_dk dn_349_1_1_ok 16 rfl)))))))
  (e_Tok2
  (e_Tok2
  (e_Tok2
  (e_Lok (e_st (I := eI) (er_icmpne (off := 8) (tg := 345) (x_dk dn_349_1_1_ok 17 rfl) (by decide)) nx_if2))
  (e_Lok (ps_bipush_33 (x_dk dn_349_1_1_ok 18 rfl))))
  (e_Tok2
  (e_Lok (e_st (I := eI) (er_goto (off := 48) (tg := 390) (x_dk dn_349_1_1_ok 19 rfl) (by decide)) nx_goto))
  (e_Tok2
  (e_Lok (ld_iload_n_1 (x_dk dn_349_1_1_ok 20 rfl)))
  (e_Lok (ps_iconst_5 (x_dk dn_349_1_1_ok 21 rfl))))))
  (e_Tok2
  (e_Tok2
  (e_Lok (e_st (I := eI) (er_icmpne (off := 8) (tg := 355) (x_dk dn_349_1_1_ok 22 rfl) (by decide)) nx_if2))
  (e_Tok2
  (e_Lok (ps_bipush_34 (x_dk dn_349_1_1_ok 23 rfl)))
  (e_Lok (e_st (I := eI) (er_goto (off := 38) (tg := 390) (x_dk dn_349_1_1_ok 24 rfl) (by decide)) nx_goto))))
  (e_Tok2
  (e_Lok (ld_iload_n_1 (x_dk dn_349_1_2_ok 0 rfl)))
  (e_Tok2
  (e_Lok (ps_bipush_7 (x_dk dn_349_1_2_ok 1 rfl)))
  (e_Lok (e_st (I := eI) (er_icmpne (off := 8) (tg := 366) (x_dk dn_349_1_2_ok 2 rfl) (by decide)) nx_if2)))))))
def te_349_153 : Nat → eE := (e_T 383 (e_T 369 (e_T 363 (e_T 361 (e_L 361 (0, ei_push (0, 36) 363, 0, 0)) (e_L 363 (0, ei_goto 390, 0, 0))) (e_T 366 (e_L 366 (0, ei_load 1 0 367, 0, 0)) (e_T 367 (e_L 367 (0, ei_push (0, 8) 369, 0, 0)) (e_L 369 (0, ei_if2 1 377 372, 0, 0))))) (e_T 377 (e_T 372 (e_L 372 (0, ei_push (0, 37) 374, 0, 0)) (e_T 374 (e_L 374 (0, ei_goto 390, 0, 0)) (e_L 377 (0, ei_load 1 0 378, 0, 0)))) (e_T 378 (e_L 378 (0, ei_push (0, 11) 380, 0, 0)) (e_T 380 (e_L 380 (0, ei_if2 1 388 383, 0, 0)) (e_L 383 (0, ei_push (0, 40) 385, 0, 0)))))) (e_T 394 (e_T 388 (e_T 385 (e_L 385 (0, ei_goto 390, 0, 0)) (e_L 388 (0, ei_push (0, 41) 390, 0, 0))) (e_T 390 (e_L 390 (0, ei_load 2 0 391, 0, 0)) (e_T 391 (e_L 391 (2, e_nof, 336, 3)) (e_L 394 (0, ei_stk ef_pop 395, 0, 0))))) (e_T 397 (e_T 395 (e_L 395 (0, ei_load 0 2 396, 0, 0)) (e_T 396 (e_L 396 (0, ei_load 0 2 397, 0, 0)) (e_L 397 (0, ei_push (0, 59) 399, 0, 0)))) (e_T 399 (e_L 399 (2, e_nof, 331, 2)) (e_T 402 (e_L 402 (2, e_nof, 334, 2)) (e_L 405 (1, e_nof, 0, 0)))))))
set_option maxRecDepth 20000 in
set_option maxHeartbeats 4000000 in
theorem te_349_153_ok : ∀ pc, e_EOq eft cls elay eI n_349 pc (te_349_153 pc) :=
  (e_Tok2
  (e_Tok2
  (e_Tok2
  (e_Tok2
  (e_Lok (ps_bipush_36 (x_dk dn_349_1_2_ok 3 rfl)))
  (e_Lok (e_st (I := eI) (er_goto (off := 27) (tg := 390) (x_dk dn_349_1_2_ok 4 rfl) (by decide)) nx_goto)))
  (e_Tok2
  (e_Lok (ld_iload_n_1 (x_dk dn_349_1_2_ok 5 rfl)))
  (e_Tok2
  (e_Lok (ps_bipush_8 (x_dk dn_349_1_2_ok 6 rfl)))
  (e_Lok (e_st (I := eI) (er_icmpne (off := 8) (tg := 377) (x_dk dn_349_1_2_ok 7 rfl) (by decide)) nx_if2)))))
  (e_Tok2
  (e_Tok2
  (e_Lok (ps_bipush_37 (x_dk dn_349_1_2_ok 8 rfl)))
  (e_Tok2
  (e_Lok (e_st (I := eI) (er_goto (off := 16) (tg := 390) (x_dk dn_349_1_2_ok 9 rfl) (by decide)) nx_goto))
  (e_Lok (ld_iload_n_1 (x_dk dn_349_1_2_ok 10 rfl)))))
  (e_Tok2
  (e_Lok (ps_bipush_11 (x_dk dn_349_1_2_ok 11 rfl)))
  (e_Tok2
  (e_Lok (e_st (I := eI) (er_icmpne (off := 8) (tg := 388) (x_dk dn_349_1_2_ok 12 rfl) (by decide)) nx_if2))
  (e_Lok (ps_bipush_40 (x_dk dn_349_1_2_ok 13 rfl)))))))
  (e_Tok2
  (e_Tok2
  (e_Tok2
  (e_Lok (e_st (I := eI) (er_goto (off := 5) (tg := 390) (x_dk dn_349_1_2_ok 14 rfl) (by decide)) nx_goto))
  (e_Lok (ps_bipush_41 (x_dk dn_349_1_2_ok 15 rfl))))
  (e_Tok2
  (e_Lok (ld_iload_n_2 (x_dk dn_349_1_2_ok 16 rfl)))
  (e_Tok2
  (e_Lok (lk_12_565 ho_349 (x_dk dn_349_1_2_ok 17 rfl)))
  (e_Lok (e_st (I := eI) (er_pop (x_dk dn_349_1_2_ok 18 rfl)) (nx_stk bf_pop))))))
  (e_Tok2
  (e_Tok2
  (e_Lok (ld_aload_n_0 (x_dk dn_349_1_2_ok 19 rfl)))
  (e_Tok2
  (e_Lok (ld_aload_n_0 (x_dk dn_349_1_2_ok 20 rfl)))
  (e_Lok (ps_bipush_59 (x_dk dn_349_1_2_ok 21 rfl)))))
  (e_Tok2
  (e_Lok (lk_12_586 ho_349 (x_dk dn_349_1_2_ok 22 rfl)))
  (e_Tok2
  (e_Lok (lk_12_555 ho_349 (x_dk dn_349_1_2_ok 23 rfl)))
  (e_Lok (e_rt (I := eI) (k := 0) ⟨(x_dk dn_349_1_2_ok 24 rfl), rfl⟩)))))))
def te_349 : Nat → eE := (e_T 230 (e_T 74 (e_T 36 te_349_0 te_349_21) (e_T 191 te_349_43 te_349_65)) (e_T 316 (e_T 273 te_349_87 te_349_109) (e_T 358 te_349_131 te_349_153)))
theorem te_349_ok : ∀ pc, e_EOq eft cls elay eI n_349 pc (te_349 pc) := (e_Tok2 ((e_Tok2 ((e_Tok2 (te_349_0_ok) (te_349_21_ok))) ((e_Tok2 (te_349_43_ok) (te_349_65_ok))))) ((e_Tok2 ((e_Tok2 (te_349_87_ok) (te_349_109_ok))) ((e_Tok2 (te_349_131_ok) (te_349_153_ok))))))
end
