noncomputable section
theorem ho_436 : (xm_y n_436).cls = "RobotCellHouseModel" := rfl
def dn_436_0_0 : List (Nat × Instr × Nat) := [(0, .iload_n 1, 1), (1, .i2l, 1), (2, .lconst 0, 1), (3, .aload_n 0, 1), (4, .getfield 288, 3), (7, .i2l, 1), (8, .invokestatic 301, 3), (11, .ifCond .ne 5, 3), (14, .iconst (-1), 1), (15, .ireturn, 1), (16, .aload_n 0, 1), (17, .getfield 265, 3), (20, .ifCond .ne 6, 3), (23, .bipush (-2), 2), (25, .ireturn, 1), (26, .iload_n 1, 1), (27, .bipush 100, 2), (29, .idiv, 1), (30, .istore_n 2, 1), (31, .iconst 0, 1), (32, .istore_n 3, 1), (33, .iload_n 3, 1), (34, .ldc 7, 2), (36, .if_icmp .ge 41, 3), (39, .aload_n 0, 1)]
set_option maxRecDepth 20000 in
theorem dn_436_0_0_ok : dn_436_0_0.all (fun q => decide (decode (xm_b n_436) q.1 = .ok (q.2.1, q.2.2))) = true := xa_g_ok (by decide +kernel)
def dn_436_0_1 : List (Nat × Instr × Nat) := [(40, .getfield 8, 3), (43, .iload_n 3, 1), (44, .iload_n 2, 1), (45, .ifCond .ne 12, 3), (48, .aload_n 0, 1), (49, .getfield 14, 3), (52, .iload_n 3, 1), (53, .iaload, 1), (54, .goto 16, 3), (57, .aload_n 0, 1), (58, .getfield 18, 3), (61, .ldc 7, 2), (63, .iload_n 2, 1), (64, .iconst 1, 1), (65, .isub, 1), (66, .imul, 1), (67, .iload_n 3, 1), (68, .iadd, 1), (69, .iaload, 1), (70, .iastore, 1), (71, .iinc 3 1, 3), (74, .goto (-41), 3), (77, .aload_n 0, 1), (78, .iconst 1, 1), (79, .putfield 771, 3)]
set_option maxRecDepth 20000 in
theorem dn_436_0_1_ok : dn_436_0_1.all (fun q => decide (decode (xm_b n_436) q.1 = .ok (q.2.1, q.2.2))) = true := xa_g_ok (by decide +kernel)
def dn_436_0_2 : List (Nat × Instr × Nat) := [(82, .bipush 100, 2), (84, .iload_n 2, 1), (85, .imul, 1), (86, .istore_n 3, 1), (87, .iload_n 3, 1), (88, .iload_n 1, 1), (89, .if_icmp .ge 58, 3), (92, .aload_n 0, 1), (93, .iload_n 3, 1), (94, .putfield 854, 3), (97, .aload_n 0, 1), (98, .aload_n 0, 1), (99, .getfield 21, 3), (102, .iconst 4, 1), (103, .iload_n 3, 1), (104, .imul, 1), (105, .iaload, 1), (106, .aload_n 0, 1), (107, .getfield 21, 3), (110, .iconst 4, 1), (111, .iload_n 3, 1), (112, .imul, 1), (113, .iconst 1, 1), (114, .iadd, 1), (115, .iaload, 1)]
set_option maxRecDepth 20000 in
theorem dn_436_0_2_ok : dn_436_0_2.all (fun q => decide (decode (xm_b n_436) q.1 = .ok (q.2.1, q.2.2))) = true := xa_g_ok (by decide +kernel)
def dn_436_0_3 : List (Nat × Instr × Nat) := [(116, .aload_n 0, 1), (117, .getfield 21, 3), (120, .iconst 4, 1), (121, .iload_n 3, 1), (122, .imul, 1), (123, .iconst 2, 1), (124, .iadd, 1), (125, .iaload, 1), (126, .aload_n 0, 1), (127, .getfield 21, 3), (130, .iconst 4, 1), (131, .iload_n 3, 1), (132, .imul, 1), (133, .iconst 3, 1), (134, .iadd, 1), (135, .iaload, 1), (136, .invokevirtual 919, 3), (139, .istore 4, 2), (141, .iinc 3 1, 3), (144, .goto (-57), 3), (147, .aload_n 0, 1), (148, .iconst 0, 1), (149, .putfield 771, 3), (152, .aload_n 0, 1), (153, .iload_n 1, 1)]
set_option maxRecDepth 20000 in
theorem dn_436_0_3_ok : dn_436_0_3.all (fun q => decide (decode (xm_b n_436) q.1 = .ok (q.2.1, q.2.2))) = true := xa_g_ok (by decide +kernel)
def dn_436_1_0 : List (Nat × Instr × Nat) := [(154, .putfield 288, 3), (157, .aload_n 0, 1), (158, .getfield 8, 3), (161, .iconst 0, 1), (162, .iaload, 1), (163, .ireturn, 1)]
set_option maxRecDepth 20000 in
theorem dn_436_1_0_ok : dn_436_1_0.all (fun q => decide (decode (xm_b n_436) q.1 = .ok (q.2.1, q.2.2))) = true := xa_g_ok (by decide +kernel)
def te_436_0 : Nat → eE := (e_T 20 (e_T 7 (e_T 2 (e_T 0 (e_L 0 (0, ei_load 1 0 1, 0, 0)) (e_T 1 (e_L 1 (0, ei_un (fun x => (4, x)) 2, 0, 0)) (e_L 2 (0, ei_push (4, 0) 3, 0, 0)))) (e_T 3 (e_L 3 (0, ei_load 0 2 4, 0, 0)) (e_T 4 (e_L 4 (0, ei_getf eft elay 12 5 7, 0, 0)) (e_L 7 (0, ei_un (fun x => (4, x)) 8, 0, 0))))) (e_T 14 (e_T 8 (e_L 8 (2, e_nof, 266, 3)) (e_T 11 (e_L 11 (0, ei_if1 1 16 14, 0, 0)) (e_L 14 (0, ei_push (0, (-1)) 15, 0, 0)))) (e_T 16 (e_T 15 (e_L 15 (1, e_nof, 1, 0)) (e_L 16 (0, ei_load 0 2 17, 0, 0))) (e_T 17 (e_L 17 (0, ei_getf eft elay 12 3 20, 0, 0)) (e_L 20 (0, ei_if1 1 26 23, 0, 0)))))) (e_T 30 (e_T 26 (e_T 23 (e_L 23 (0, ei_push (0, (-2)) 25, 0, 0)) (e_T 25 (e_L 25 (1, e_nof, 1, 0)) (e_L 26 (0, ei_load 1 0 27, 0, 0)))) (e_T 27 (e_L 27 (0, ei_push (0, 100) 29, 0, 0)) (e_T 29 (e_L 29 (0, ei_bin eF_div 30, 0, 0)) (e_L 30 (0, ei_stor 2 0 31, 0, 0))))) (e_T 33 (e_T 31 (e_L 31 (0, ei_push (0, 0) 32, 0, 0)) (e_T 32 (e_L 32 (0, ei_stor 3 0 33, 0, 0)) (e_L 33 (0, ei_load 3 0 34, 0, 0)))) (e_T 36 (e_T 34 (e_L 34 (0, ei_push (0, 33060) 36, 0, 0)) (e_L 36 (0, ei_if2 3 77 39, 0, 0))) (e_T 39 (e_L 39 (0, ei_load 0 2 40, 0, 0)) (e_L 40 (0, ei_getf eft elay 12 0 43, 0, 0)))))))
set_option maxRecDepth 20000 in
set_option maxHeartbeats 4000000 in
theorem te_436_0_ok : ∀ pc, e_EOq eft cls elay eI n_436 pc (te_436_0 pc) :=
  (e_Tok2
  (e_Tok2
  (e_Tok2
  (e_Tok2
  (e_Lok (ld_iload_n_1 (x_dk dn_436_0_0_ok 0 rfl)))
  (e_Tok2
  (e_Lok (e_st (I := eI) (er_i2l (x_dk dn_436_0_0_ok 1 rfl)) (nx_un (fun _ => rfl))))
  (e_Lok (ps_lconst_0 (x_dk dn_436_0_0_ok 2 rfl)))))
  (e_Tok2
  (e_Lok (ld_aload_n_0 (x_dk dn_436_0_0_ok 3 rfl)))
  (e_Tok2
  (e_Lok (lk_12_288g ho_436 (x_dk dn_436_0_0_ok 4 rfl)))
  (e_Lok (e_st (I := eI) (er_i2l (x_dk dn_436_0_0_ok 5 rfl)) (nx_un (fun _ => rfl)))))))
  (e_Tok2
  (e_Tok2
  (e_Lok (lk_12_301 ho_436 (x_dk dn_436_0_0_ok 6 rfl)))
  (e_Tok2
  (e_Lok (e_st (I := eI) (er_ifne (off := 5) (tg := 16) (x_dk dn_436_0_0_ok 7 rfl) (by decide)) nx_if1))
  (e_Lok (ps_iconst_m1 (x_dk dn_436_0_0_ok 8 rfl)))))
  (e_Tok2
  (e_Tok2
  (e_Lok (e_rt (I := eI) (k := 1) ⟨(x_dk dn_436_0_0_ok 9 rfl), rfl⟩))
  (e_Lok (ld_aload_n_0 (x_dk dn_436_0_0_ok 10 rfl))))
  (e_Tok2
  (e_Lok (lk_12_265g ho_436 (x_dk dn_436_0_0_ok 11 rfl)))
  (e_Lok (e_st (I := eI) (er_ifne (off := 6) (tg := 26) (x_dk dn_436_0_0_ok 12 rfl) (by decide)) nx_if1))))))
  (e_Tok2
  (e_Tok2
  (e_Tok2
  (e_Lok (ps_bipush_m2 (x_dk dn_436_0_0_ok 13 rfl)))
  (e_Tok2
  (e_Lok (e_rt (I := eI) (k := 1) ⟨(x_dk dn_436_0_0_ok 14 rfl), rfl⟩))
  (e_Lok (ld_iload_n_1 (x_dk dn_436_0_0_ok 15 rfl)))))
  (e_Tok2
  (e_Lok (ps_bipush_100 (x_dk dn_436_0_0_ok 16 rfl)))
  (e_Tok2
  (e_Lok (e_st (I := eI) (er_idiv (x_dk dn_436_0_0_ok 17 rfl)) nx_bin))
  (e_Lok (e_st (I := eI) (er_istore_n (i := 2) (x_dk dn_436_0_0_ok 18 rfl) (by decide +kernel)) nx_stor)))))
  (e_Tok2
  (e_Tok2
  (e_Lok (ps_iconst_0 (x_dk dn_436_0_0_ok 19 rfl)))
  (e_Tok2
  (e_Lok (e_st (I := eI) (er_istore_n (i := 3) (x_dk dn_436_0_0_ok 20 rfl) (by decide +kernel)) nx_stor))
  (e_Lok (ld_iload_n_3 (x_dk dn_436_0_0_ok 21 rfl)))))
  (e_Tok2
  (e_Tok2
  (e_Lok (e_st (I := eI) (er_ldc (ix := 7) (z := 33060) (v := 33060) (x_dk dn_436_0_0_ok 22 rfl) (in_t9 (List.mem_of_getElem? (i := 86) rfl) rfl) (by decide)) (nx_push (Or.inl rfl))))
  (e_Lok (e_st (I := eI) (er_icmpge (off := 41) (tg := 77) (x_dk dn_436_0_0_ok 23 rfl) (by decide)) nx_if2)))
  (e_Tok2
  (e_Lok (ld_aload_n_0 (x_dk dn_436_0_0_ok 24 rfl)))
  (e_Lok (lk_12_8g ho_436 (x_dk dn_436_0_1_ok 0 rfl))))))))
def te_436_26 : Nat → eE := (e_T 64 (e_T 52 (e_T 45 (e_T 43 (e_L 43 (0, ei_load 3 0 44, 0, 0)) (e_T 44 (e_L 44 (0, ei_load 2 0 45, 0, 0)) (e_L 45 (0, ei_if1 1 57 48, 0, 0)))) (e_T 48 (e_L 48 (0, ei_load 0 2 49, 0, 0)) (e_T 49 (e_L 49 (0, ei_getf eft elay 12 1 52, 0, 0)) (e_L 52 (0, ei_load 3 0 53, 0, 0))))) (e_T 57 (e_T 53 (e_L 53 (0, ei_ald elay false 54, 0, 0)) (e_T 54 (e_L 54 (0, ei_goto 70, 0, 0)) (e_L 57 (0, ei_load 0 2 58, 0, 0)))) (e_T 61 (e_T 58 (e_L 58 (0, ei_getf eft elay 12 2 61, 0, 0)) (e_L 61 (0, ei_push (0, 33060) 63, 0, 0))) (e_T 63 (e_L 63 (0, ei_load 2 0 64, 0, 0)) (e_L 64 (0, ei_push (0, 1) 65, 0, 0)))))) (e_T 71 (e_T 67 (e_T 65 (e_L 65 (0, ei_bin eF_sub 66, 0, 0)) (e_T 66 (e_L 66 (0, ei_bin eF_mul 67, 0, 0)) (e_L 67 (0, ei_load 3 0 68, 0, 0)))) (e_T 69 (e_T 68 (e_L 68 (0, ei_bin eF_add 69, 0, 0)) (e_L 69 (0, ei_ald elay false 70, 0, 0))) (e_T 70 (e_L 70 (0, ei_ast elay false 71, 0, 0)) (e_L 71 (0, ei_inc 3 1 74, 0, 0))))) (e_T 78 (e_T 74 (e_L 74 (0, ei_goto 33, 0, 0)) (e_T 77 (e_L 77 (0, ei_load 0 2 78, 0, 0)) (e_L 78 (0, ei_push (0, 1) 79, 0, 0)))) (e_T 82 (e_T 79 (e_L 79 (0, ei_putf eft elay 12 6 1 82, 0, 0)) (e_L 82 (0, ei_push (0, 100) 84, 0, 0))) (e_T 84 (e_L 84 (0, ei_load 2 0 85, 0, 0)) (e_L 85 (0, ei_bin eF_mul 86, 0, 0)))))))
set_option maxRecDepth 20000 in
set_option maxHeartbeats 4000000 in
theorem te_436_26_ok : ∀ pc, e_EOq eft cls elay eI n_436 pc (te_436_26 pc) :=
  (e_Tok2
  (e_Tok2
  (e_Tok2
  (e_Tok2
  (e_Lok (ld_iload_n_3 (x_dk dn_436_0_1_ok 1 rfl)))
  (e_Tok2
  (e_Lok (ld_iload_n_2 (x_dk dn_436_0_1_ok 2 rfl)))
  (e_Lok (e_st (I := eI) (er_ifne (off := 12) (tg := 57) (x_dk dn_436_0_1_ok 3 rfl) (by decide)) nx_if1))))
  (e_Tok2
  (e_Lok (ld_aload_n_0 (x_dk dn_436_0_1_ok 4 rfl)))
  (e_Tok2
  (e_Lok (lk_12_14g ho_436 (x_dk dn_436_0_1_ok 5 rfl)))
  (e_Lok (ld_iload_n_3 (x_dk dn_436_0_1_ok 6 rfl))))))
  (e_Tok2
  (e_Tok2
  (e_Lok (sm_iaload (x_dk dn_436_0_1_ok 7 rfl)))
  (e_Tok2
  (e_Lok (e_st (I := eI) (er_goto (off := 16) (tg := 70) (x_dk dn_436_0_1_ok 8 rfl) (by decide)) nx_goto))
  (e_Lok (ld_aload_n_0 (x_dk dn_436_0_1_ok 9 rfl)))))
  (e_Tok2
  (e_Tok2
  (e_Lok (lk_12_18g ho_436 (x_dk dn_436_0_1_ok 10 rfl)))
  (e_Lok (e_st (I := eI) (er_ldc (ix := 7) (z := 33060) (v := 33060) (x_dk dn_436_0_1_ok 11 rfl) (in_t9 (List.mem_of_getElem? (i := 86) rfl) rfl) (by decide)) (nx_push (Or.inl rfl)))))
  (e_Tok2
  (e_Lok (ld_iload_n_2 (x_dk dn_436_0_1_ok 12 rfl)))
  (e_Lok (ps_iconst_1 (x_dk dn_436_0_1_ok 13 rfl)))))))
  (e_Tok2
  (e_Tok2
  (e_Tok2
  (e_Lok (sm_isub (x_dk dn_436_0_1_ok 14 rfl)))
  (e_Tok2
  (e_Lok (sm_imul (x_dk dn_436_0_1_ok 15 rfl)))
  (e_Lok (ld_iload_n_3 (x_dk dn_436_0_1_ok 16 rfl)))))
  (e_Tok2
  (e_Tok2
  (e_Lok (sm_iadd (x_dk dn_436_0_1_ok 17 rfl)))
  (e_Lok (sm_iaload (x_dk dn_436_0_1_ok 18 rfl))))
  (e_Tok2
  (e_Lok (sm_iastore (x_dk dn_436_0_1_ok 19 rfl)))
  (e_Lok (e_st (I := eI) (er_iinc (i := 3) (n := 1) (x_dk dn_436_0_1_ok 20 rfl) (by decide +kernel) (by decide)) nx_inc)))))
  (e_Tok2
  (e_Tok2
  (e_Lok (e_st (I := eI) (er_goto (off := (-41)) (tg := 33) (x_dk dn_436_0_1_ok 21 rfl) (by decide)) nx_goto))
  (e_Tok2
  (e_Lok (ld_aload_n_0 (x_dk dn_436_0_1_ok 22 rfl)))
  (e_Lok (ps_iconst_1 (x_dk dn_436_0_1_ok 23 rfl)))))
  (e_Tok2
  (e_Tok2
  (e_Lok (lk_12_771p ho_436 (x_dk dn_436_0_1_ok 24 rfl)))
  (e_Lok (ps_bipush_100 (x_dk dn_436_0_2_ok 0 rfl))))
  (e_Tok2
  (e_Lok (ld_iload_n_2 (x_dk dn_436_0_2_ok 1 rfl)))
  (e_Lok (sm_imul (x_dk dn_436_0_2_ok 2 rfl))))))))
def te_436_53 : Nat → eE := (e_T 104 (e_T 93 (e_T 88 (e_T 86 (e_L 86 (0, ei_stor 3 0 87, 0, 0)) (e_T 87 (e_L 87 (0, ei_load 3 0 88, 0, 0)) (e_L 88 (0, ei_load 1 0 89, 0, 0)))) (e_T 89 (e_L 89 (0, ei_if2 3 147 92, 0, 0)) (e_T 92 (e_L 92 (0, ei_load 0 2 93, 0, 0)) (e_L 93 (0, ei_load 3 0 94, 0, 0))))) (e_T 98 (e_T 94 (e_L 94 (0, ei_putf eft elay 12 117 0 97, 0, 0)) (e_T 97 (e_L 97 (0, ei_load 0 2 98, 0, 0)) (e_L 98 (0, ei_load 0 2 99, 0, 0)))) (e_T 102 (e_T 99 (e_L 99 (0, ei_getf eft elay 12 4 102, 0, 0)) (e_L 102 (0, ei_push (0, 4) 103, 0, 0))) (e_T 103 (e_L 103 (0, ei_load 3 0 104, 0, 0)) (e_L 104 (0, ei_bin eF_mul 105, 0, 0)))))) (e_T 112 (e_T 107 (e_T 105 (e_L 105 (0, ei_ald elay false 106, 0, 0)) (e_T 106 (e_L 106 (0, ei_load 0 2 107, 0, 0)) (e_L 107 (0, ei_getf eft elay 12 4 110, 0, 0)))) (e_T 110 (e_L 110 (0, ei_push (0, 4) 111, 0, 0)) (e_T 111 (e_L 111 (0, ei_load 3 0 112, 0, 0)) (e_L 112 (0, ei_bin eF_mul 113, 0, 0))))) (e_T 115 (e_T 113 (e_L 113 (0, ei_push (0, 1) 114, 0, 0)) (e_T 114 (e_L 114 (0, ei_bin eF_add 115, 0, 0)) (e_L 115 (0, ei_ald elay false 116, 0, 0)))) (e_T 117 (e_T 116 (e_L 116 (0, ei_load 0 2 117, 0, 0)) (e_L 117 (0, ei_getf eft elay 12 4 120, 0, 0))) (e_T 120 (e_L 120 (0, ei_push (0, 4) 121, 0, 0)) (e_L 121 (0, ei_load 3 0 122, 0, 0)))))))
set_option maxRecDepth 20000 in
set_option maxHeartbeats 4000000 in
theorem te_436_53_ok : ∀ pc, e_EOq eft cls elay eI n_436 pc (te_436_53 pc) :=
  (e_Tok2
  (e_Tok2
  (e_Tok2
  (e_Tok2
  (e_Lok (e_st (I := eI) (er_istore_n (i := 3) (x_dk dn_436_0_2_ok 3 rfl) (by decide +kernel)) nx_stor))
  (e_Tok2
  (e_Lok (ld_iload_n_3 (x_dk dn_436_0_2_ok 4 rfl)))
  (e_Lok (ld_iload_n_1 (x_dk dn_436_0_2_ok 5 rfl)))))
  (e_Tok2
  (e_Lok (e_st (I := eI) (er_icmpge (off := 58) (tg := 147) (x_dk dn_436_0_2_ok 6 rfl) (by decide)) nx_if2))
  (e_Tok2
  (e_Lok (ld_aload_n_0 (x_dk dn_436_0_2_ok 7 rfl)))
  (e_Lok (ld_iload_n_3 (x_dk dn_436_0_2_ok 8 rfl))))))
  (e_Tok2
  (e_Tok2
  (e_Lok (lk_12_854p ho_436 (x_dk dn_436_0_2_ok 9 rfl)))
  (e_Tok2
  (e_Lok (ld_aload_n_0 (x_dk dn_436_0_2_ok 10 rfl)))
  (e_Lok (ld_aload_n_0 (x_dk dn_436_0_2_ok 11 rfl)))))
  (e_Tok2
  (e_Tok2
  (e_Lok (lk_12_21g ho_436 (x_dk dn_436_0_2_ok 12 rfl)))
  (e_Lok (ps_iconst_4 (x_dk dn_436_0_2_ok 13 rfl))))
  (e_Tok2
  (e_Lok (ld_iload_n_3 (x_dk dn_436_0_2_ok 14 rfl)))
  (e_Lok (sm_imul (x_dk dn_436_0_2_ok 15 rfl)))))))
  (e_Tok2
  (e_Tok2
  (e_Tok2
  (e_Lok (sm_iaload (x_dk dn_436_0_2_ok 16 rfl)))
  (e_Tok2
  (e_Lok (ld_aload_n_0 (x_dk dn_436_0_2_ok 17 rfl)))
  (e_Lok (lk_12_21g ho_436 (x_dk dn_436_0_2_ok 18 rfl)))))
  (e_Tok2
  (e_Lok (ps_iconst_4 (x_dk dn_436_0_2_ok 19 rfl)))
  (e_Tok2
  (e_Lok (ld_iload_n_3 (x_dk dn_436_0_2_ok 20 rfl)))
  (e_Lok (sm_imul (x_dk dn_436_0_2_ok 21 rfl))))))
  (e_Tok2
  (e_Tok2
  (e_Lok (ps_iconst_1 (x_dk dn_436_0_2_ok 22 rfl)))
  (e_Tok2
  (e_Lok (sm_iadd (x_dk dn_436_0_2_ok 23 rfl)))
  (e_Lok (sm_iaload (x_dk dn_436_0_2_ok 24 rfl)))))
  (e_Tok2
  (e_Tok2
  (e_Lok (ld_aload_n_0 (x_dk dn_436_0_3_ok 0 rfl)))
  (e_Lok (lk_12_21g ho_436 (x_dk dn_436_0_3_ok 1 rfl))))
  (e_Tok2
  (e_Lok (ps_iconst_4 (x_dk dn_436_0_3_ok 2 rfl)))
  (e_Lok (ld_iload_n_3 (x_dk dn_436_0_3_ok 3 rfl))))))))
def te_436_79 : Nat → eE := (e_T 136 (e_T 127 (e_T 124 (e_T 122 (e_L 122 (0, ei_bin eF_mul 123, 0, 0)) (e_T 123 (e_L 123 (0, ei_push (0, 2) 124, 0, 0)) (e_L 124 (0, ei_bin eF_add 125, 0, 0)))) (e_T 125 (e_L 125 (0, ei_ald elay false 126, 0, 0)) (e_T 126 (e_L 126 (0, ei_load 0 2 127, 0, 0)) (e_L 127 (0, ei_getf eft elay 12 4 130, 0, 0))))) (e_T 132 (e_T 130 (e_L 130 (0, ei_push (0, 4) 131, 0, 0)) (e_T 131 (e_L 131 (0, ei_load 3 0 132, 0, 0)) (e_L 132 (0, ei_bin eF_mul 133, 0, 0)))) (e_T 134 (e_T 133 (e_L 133 (0, ei_push (0, 3) 134, 0, 0)) (e_L 134 (0, ei_bin eF_add 135, 0, 0))) (e_T 135 (e_L 135 (0, ei_ald elay false 136, 0, 0)) (e_L 136 (2, e_nof, 435, 5)))))) (e_T 152 (e_T 144 (e_T 139 (e_L 139 (0, ei_stor 4 0 141, 0, 0)) (e_T 141 (e_L 141 (0, ei_inc 3 1 144, 0, 0)) (e_L 144 (0, ei_goto 87, 0, 0)))) (e_T 148 (e_T 147 (e_L 147 (0, ei_load 0 2 148, 0, 0)) (e_L 148 (0, ei_push (0, 0) 149, 0, 0))) (e_T 149 (e_L 149 (0, ei_putf eft elay 12 6 1 152, 0, 0)) (e_L 152 (0, ei_load 0 2 153, 0, 0))))) (e_T 157 (e_T 153 (e_L 153 (0, ei_load 1 0 154, 0, 0)) (e_T 154 (e_L 154 (0, ei_putf eft elay 12 5 0 157, 0, 0)) (e_L 157 (0, ei_load 0 2 158, 0, 0)))) (e_T 161 (e_T 158 (e_L 158 (0, ei_getf eft elay 12 0 161, 0, 0)) (e_L 161 (0, ei_push (0, 0) 162, 0, 0))) (e_T 162 (e_L 162 (0, ei_ald elay false 163, 0, 0)) (e_L 163 (1, e_nof, 1, 0)))))))
set_option maxRecDepth 20000 in
set_option maxHeartbeats 4000000 in
theorem te_436_79_ok : ∀ pc, e_EOq eft cls elay eI n_436 pc (te_436_79 pc) :=
  (e_Tok2
  (e_Tok2
  (e_Tok2
  (e_Tok2
  (e_Lok (sm_imul (x_dk dn_436_0_3_ok 4 rfl)))
  (e_Tok2
  (e_Lok (ps_iconst_2 (x_dk dn_436_0_3_ok 5 rfl)))
  (e_Lok (sm_iadd (x_dk dn_436_0_3_ok 6 rfl)))))
  (e_Tok2
  (e_Lok (sm_iaload (x_dk dn_436_0_3_ok 7 rfl)))
  (e_Tok2
  (e_Lok (ld_aload_n_0 (x_dk dn_436_0_3_ok 8 rfl)))
  (e_Lok (lk_12_21g ho_436 (x_dk dn_436_0_3_ok 9 rfl))))))
  (e_Tok2
  (e_Tok2
  (e_Lok (ps_iconst_4 (x_dk dn_436_0_3_ok 10 rfl)))
  (e_Tok2
  (e_Lok (ld_iload_n_3 (x_dk dn_436_0_3_ok 11 rfl)))
  (e_Lok (sm_imul (x_dk dn_436_0_3_ok 12 rfl)))))
  (e_Tok2
  (e_Tok2
  (e_Lok (ps_iconst_3 (x_dk dn_436_0_3_ok 13 rfl)))
  (e_Lok (sm_iadd (x_dk dn_436_0_3_ok 14 rfl))))
  (e_Tok2
  (e_Lok (sm_iaload (x_dk dn_436_0_3_ok 15 rfl)))
  (e_Lok (lk_12_919 ho_436 (x_dk dn_436_0_3_ok 16 rfl)))))))
  (e_Tok2
  (e_Tok2
  (e_Tok2
  (e_Lok (e_st (I := eI) (er_istore (i := 4) (x_dk dn_436_0_3_ok 17 rfl) (by decide +kernel)) nx_stor))
  (e_Tok2
  (e_Lok (e_st (I := eI) (er_iinc (i := 3) (n := 1) (x_dk dn_436_0_3_ok 18 rfl) (by decide +kernel) (by decide)) nx_inc))
  (e_Lok (e_st (I := eI) (er_goto (off := (-57)) (tg := 87) (x_dk dn_436_0_3_ok 19 rfl) (by decide)) nx_goto))))
  (e_Tok2
  (e_Tok2
  (e_Lok (ld_aload_n_0 (x_dk dn_436_0_3_ok 20 rfl)))
  (e_Lok (ps_iconst_0 (x_dk dn_436_0_3_ok 21 rfl))))
  (e_Tok2
  (e_Lok (lk_12_771p ho_436 (x_dk dn_436_0_3_ok 22 rfl)))
  (e_Lok (ld_aload_n_0 (x_dk dn_436_0_3_ok 23 rfl))))))
  (e_Tok2
  (e_Tok2
  (e_Lok (ld_iload_n_1 (x_dk dn_436_0_3_ok 24 rfl)))
  (e_Tok2
  (e_Lok (lk_12_288p ho_436 (x_dk dn_436_1_0_ok 0 rfl)))
  (e_Lok (ld_aload_n_0 (x_dk dn_436_1_0_ok 1 rfl)))))
  (e_Tok2
  (e_Tok2
  (e_Lok (lk_12_8g ho_436 (x_dk dn_436_1_0_ok 2 rfl)))
  (e_Lok (ps_iconst_0 (x_dk dn_436_1_0_ok 3 rfl))))
  (e_Tok2
  (e_Lok (sm_iaload (x_dk dn_436_1_0_ok 4 rfl)))
  (e_Lok (e_rt (I := eI) (k := 1) ⟨(x_dk dn_436_1_0_ok 5 rfl), rfl⟩)))))))
def te_436 : Nat → eE := (e_T 85 (e_T 40 te_436_0 te_436_26) (e_T 121 te_436_53 te_436_79))
theorem te_436_ok : ∀ pc, e_EOq eft cls elay eI n_436 pc (te_436 pc) := (e_Tok2 ((e_Tok2 (te_436_0_ok) (te_436_26_ok))) ((e_Tok2 (te_436_53_ok) (te_436_79_ok))))
theorem ho_437 : (xm_y n_437).cls = "RobotCellHouseModel" := rfl
def dn_437_0_0 : List (Nat × Instr × Nat) := [(0, .aload_n 0, 1), (1, .getfield 8, 3), (4, .iconst 0, 1), (5, .iaload, 1), (6, .ireturn, 1)]
set_option maxRecDepth 20000 in
theorem dn_437_0_0_ok : dn_437_0_0.all (fun q => decide (decode (xm_b n_437) q.1 = .ok (q.2.1, q.2.2))) = true := xa_g_ok (by decide +kernel)
def te_437_0 : Nat → eE := (e_T 1 (e_T 0 (e_L 0 (0, ei_load 0 2 1, 0, 0)) (e_L 1 (0, ei_getf eft elay 12 0 4, 0, 0))) (e_T 4 (e_L 4 (0, ei_push (0, 0) 5, 0, 0)) (e_T 5 (e_L 5 (0, ei_ald elay false 6, 0, 0)) (e_L 6 (1, e_nof, 1, 0)))))
set_option maxRecDepth 20000 in
set_option maxHeartbeats 4000000 in
theorem te_437_0_ok : ∀ pc, e_EOq eft cls elay eI n_437 pc (te_437_0 pc) :=
  (e_Tok2
  (e_Tok2
  (e_Lok (ld_aload_n_0 (x_dk dn_437_0_0_ok 0 rfl)))
  (e_Lok (lk_12_8g ho_437 (x_dk dn_437_0_0_ok 1 rfl))))
  (e_Tok2
  (e_Lok (ps_iconst_0 (x_dk dn_437_0_0_ok 2 rfl)))
  (e_Tok2
  (e_Lok (sm_iaload (x_dk dn_437_0_0_ok 3 rfl)))
  (e_Lok (e_rt (I := eI) (k := 1) ⟨(x_dk dn_437_0_0_ok 4 rfl), rfl⟩)))))
def te_437 : Nat → eE := te_437_0
theorem te_437_ok : ∀ pc, e_EOq eft cls elay eI n_437 pc (te_437 pc) := te_437_0_ok
theorem ho_438 : (xm_y n_438).cls = "RobotCellHouseModel" := rfl
def dn_438_0_0 : List (Nat × Instr × Nat) := [(0, .aload_n 0, 1), (1, .iload_n 1, 1), (2, .invokevirtual 305, 3), (5, .ifCond .eq 15, 3), (8, .iload_n 2, 1), (9, .i2l, 1), (10, .lconst 0, 1), (11, .ldc2_w 367, 3), (14, .invokestatic 301, 3), (17, .ifCond .ne 5, 3), (20, .iconst (-1), 1), (21, .ireturn, 1), (22, .iload_n 1, 1), (23, .invokestatic 294, 3), (26, .istore_n 3, 1), (27, .iload_n 2, 1), (28, .tableswitch 103 0 6 #[44, 53, 60, 69, 78, 85, 94], 44), (72, .aload_n 0, 1), (73, .getfield 8, 3), (76, .iload_n 3, 1), (77, .iconst 0, 1), (78, .iadd, 1), (79, .iaload, 1), (80, .ireturn, 1), (81, .aload_n 0, 1)]
set_option maxRecDepth 20000 in
theorem dn_438_0_0_ok : dn_438_0_0.all (fun q => decide (decode (xm_b n_438) q.1 = .ok (q.2.1, q.2.2))) = true := xa_g_ok (by decide +kernel)
def dn_438_0_1 : List (Nat × Instr × Nat) := [(82, .getfield 43, 3), (85, .iload_n 1, 1), (86, .iaload, 1), (87, .ireturn, 1), (88, .aload_n 0, 1), (89, .getfield 8, 3), (92, .iload_n 3, 1), (93, .iconst 1, 1), (94, .iadd, 1), (95, .iaload, 1), (96, .ireturn, 1), (97, .aload_n 0, 1), (98, .getfield 8, 3), (101, .iload_n 3, 1), (102, .iconst 2, 1), (103, .iadd, 1), (104, .iaload, 1), (105, .ireturn, 1), (106, .aload_n 0, 1), (107, .getfield 201, 3), (110, .iload_n 1, 1), (111, .iaload, 1), (112, .ireturn, 1), (113, .aload_n 0, 1), (114, .getfield 8, 3)]
set_option maxRecDepth 20000 in
theorem dn_438_0_1_ok : dn_438_0_1.all (fun q => decide (decode (xm_b n_438) q.1 = .ok (q.2.1, q.2.2))) = true := xa_g_ok (by decide +kernel)
def dn_438_0_2 : List (Nat × Instr × Nat) := [(117, .iload_n 3, 1), (118, .iconst 3, 1), (119, .iadd, 1), (120, .iaload, 1), (121, .ireturn, 1), (122, .aload_n 0, 1), (123, .getfield 8, 3), (126, .iload_n 3, 1), (127, .iconst 4, 1), (128, .iadd, 1), (129, .iaload, 1), (130, .ireturn, 1), (131, .aload_n 0, 1), (132, .getfield 8, 3), (135, .iload_n 3, 1), (136, .bipush 6, 2), (138, .iadd, 1), (139, .iaload, 1), (140, .ireturn, 1)]
set_option maxRecDepth 20000 in
theorem dn_438_0_2_ok : dn_438_0_2.all (fun q => decide (decode (xm_b n_438) q.1 = .ok (q.2.1, q.2.2))) = true := xa_g_ok (by decide +kernel)
def te_438_0 : Nat → eE := (e_T 28 (e_T 11 (e_T 5 (e_T 1 (e_T 0 (e_L 0 (0, ei_load 0 2 1, 0, 0)) (e_L 1 (0, ei_load 1 0 2, 0, 0))) (e_T 2 (e_L 2 (2, e_nof, 270, 2)) (e_L 5 (0, ei_if1 0 20 8, 0, 0)))) (e_T 9 (e_T 8 (e_L 8 (0, ei_load 2 0 9, 0, 0)) (e_L 9 (0, ei_un (fun x => (4, x)) 10, 0, 0))) (e_T 10 (e_L 10 (0, ei_push (4, 0) 11, 0, 0)) (e_L 11 (0, ei_push (4, 7) 14, 0, 0))))) (e_T 21 (e_T 17 (e_T 14 (e_L 14 (2, e_nof, 266, 3)) (e_L 17 (0, ei_if1 1 22 20, 0, 0))) (e_T 20 (e_L 20 (0, ei_push (0, (-1)) 21, 0, 0)) (e_L 21 (1, e_nof, 1, 0)))) (e_T 23 (e_T 22 (e_L 22 (0, ei_load 1 0 23, 0, 0)) (e_L 23 (2, e_nof, 268, 1))) (e_T 26 (e_L 26 (0, ei_stor 3 0 27, 0, 0)) (e_T 27 (e_L 27 (0, ei_load 2 0 28, 0, 0)) (e_L 28 (0, ei_sw [((-2147483648), (-1), 131), (0, 0, 72), (1, 1, 81), (2, 2, 88), (3, 3, 97), (4, 4, 106), (5, 5, 113), (6, 6, 122), (7, 2147483647, 131)], 0, 0))))))) (e_T 81 (e_T 77 (e_T 73 (e_T 72 (e_L 72 (0, ei_load 0 2 73, 0, 0)) (e_L 73 (0, ei_getf eft elay 12 0 76, 0, 0))) (e_T 76 (e_L 76 (0, ei_load 3 0 77, 0, 0)) (e_L 77 (0, ei_push (0, 0) 78, 0, 0)))) (e_T 79 (e_T 78 (e_L 78 (0, ei_bin eF_add 79, 0, 0)) (e_L 79 (0, ei_ald elay false 80, 0, 0))) (e_T 80 (e_L 80 (1, e_nof, 1, 0)) (e_L 81 (0, ei_load 0 2 82, 0, 0))))) (e_T 87 (e_T 85 (e_T 82 (e_L 82 (0, ei_getf eft elay 12 15 85, 0, 0)) (e_L 85 (0, ei_load 1 0 86, 0, 0))) (e_T 86 (e_L 86 (0, ei_ald elay false 87, 0, 0)) (e_L 87 (1, e_nof, 1, 0)))) (e_T 89 (e_T 88 (e_L 88 (0, ei_load 0 2 89, 0, 0)) (e_L 89 (0, ei_getf eft elay 12 0 92, 0, 0))) (e_T 92 (e_L 92 (0, ei_load 3 0 93, 0, 0)) (e_T 93 (e_L 93 (0, ei_push (0, 1) 94, 0, 0)) (e_L 94 (0, ei_bin eF_add 95, 0, 0))))))))
set_option maxRecDepth 20000 in
set_option maxHeartbeats 4000000 in
theorem te_438_0_ok : ∀ pc, e_EOq eft cls elay eI n_438 pc (te_438_0 pc) :=
  (e_Tok2
  (e_Tok2
  (e_Tok2
  (e_Tok2
  (e_Tok2
  (e_Lok (ld_aload_n_0 (x_dk dn_438_0_0_ok 0 rfl)))
  (e_Lok (ld_iload_n_1 (x_dk dn_438_0_0_ok 1 rfl))))
  (e_Tok2
  (e_Lok (lk_12_305 ho_438 (x_dk dn_438_0_0_ok 2 rfl)))
  (e_Lok (e_st (I := eI) (er_ifeq (off := 15) (tg := 20) (x_dk dn_438_0_0_ok 3 rfl) (by decide)) nx_if1))))
  (e_Tok2
  (e_Tok2
  (e_Lok (ld_iload_n_2 (x_dk dn_438_0_0_ok 4 rfl)))
  (e_Lok (e_st (I := eI) (er_i2l (x_dk dn_438_0_0_ok 5 rfl)) (nx_un (fun _ => rfl)))))
  (e_Tok2
  (e_Lok (ps_lconst_0 (x_dk dn_438_0_0_ok 6 rfl)))
  (e_Lok (e_st (I := eI) (er_ldc2 (ix := 367) (z := 7) (v := 7) (x_dk dn_438_0_0_ok 7 rfl) (in_t11 (List.mem_of_getElem? (i := 120) rfl) rfl) (by decide)) (nx_push (Or.inl rfl)))))))
  (e_Tok2
  (e_Tok2
  (e_Tok2
  (e_Lok (lk_12_301 ho_438 (x_dk dn_438_0_0_ok 8 rfl)))
  (e_Lok (e_st (I := eI) (er_ifne (off := 5) (tg := 22) (x_dk dn_438_0_0_ok 9 rfl) (by decide)) nx_if1)))
  (e_Tok2
  (e_Lok (ps_iconst_m1 (x_dk dn_438_0_0_ok 10 rfl)))
  (e_Lok (e_rt (I := eI) (k := 1) ⟨(x_dk dn_438_0_0_ok 11 rfl), rfl⟩))))
  (e_Tok2
  (e_Tok2
  (e_Lok (ld_iload_n_1 (x_dk dn_438_0_0_ok 12 rfl)))
  (e_Lok (lk_12_294 ho_438 (x_dk dn_438_0_0_ok 13 rfl))))
  (e_Tok2
  (e_Lok (e_st (I := eI) (er_istore_n (i := 3) (x_dk dn_438_0_0_ok 14 rfl) (by decide +kernel)) nx_stor))
  (e_Tok2
  (e_Lok (ld_iload_n_2 (x_dk dn_438_0_0_ok 15 rfl)))
  (e_Lok (e_st (I := eI) (er_tsw (dflt := 103) (lo := 0) (hi := 6) (offs := #[44, 53, 60, 69, 78, 85, 94]) (len := 44) (n := 7) (x_dk dn_438_0_0_ok 16 rfl) (by decide) (by decide +kernel)) nx_sw)))))))
  (e_Tok2
  (e_Tok2
  (e_Tok2
  (e_Tok2
  (e_Lok (ld_aload_n_0 (x_dk dn_438_0_0_ok 17 rfl)))
  (e_Lok (lk_12_8g ho_438 (x_dk dn_438_0_0_ok 18 rfl))))
  (e_Tok2
  (e_Lok (ld_iload_n_3 (x_dk dn_438_0_0_ok 19 rfl)))
  (e_Lok (ps_iconst_0 (x_dk dn_438_0_0_ok 20 rfl)))))
  (e_Tok2
  (e_Tok2
  (e_Lok (sm_iadd (x_dk dn_438_0_0_ok 21 rfl)))
  (e_Lok (sm_iaload (x_dk dn_438_0_0_ok 22 rfl))))
  (e_Tok2
  (e_Lok (e_rt (I := eI) (k := 1) ⟨(x_dk dn_438_0_0_ok 23 rfl), rfl⟩))
  (e_Lok (ld_aload_n_0 (x_dk dn_438_0_0_ok 24 rfl))))))
  (e_Tok2
  (e_Tok2
  (e_Tok2
  (e_Lok (lk_12_43g ho_438 (x_dk dn_438_0_1_ok 0 rfl)))
  (e_Lok (ld_iload_n_1 (x_dk dn_438_0_1_ok 1 rfl))))
  (e_Tok2
  (e_Lok (sm_iaload (x_dk dn_438_0_1_ok 2 rfl)))
  (e_Lok (e_rt (I := eI) (k := 1) ⟨(x_dk dn_438_0_1_ok 3 rfl), rfl⟩))))
  (e_Tok2
  (e_Tok2
  (e_Lok (ld_aload_n_0 (x_dk dn_438_0_1_ok 4 rfl)))
  (e_Lok (lk_12_8g ho_438 (x_dk dn_438_0_1_ok 5 rfl))))
  (e_Tok2
  (e_Lok (ld_iload_n_3 (x_dk dn_438_0_1_ok 6 rfl)))
  (e_Tok2
  (e_Lok (ps_iconst_1 (x_dk dn_438_0_1_ok 7 rfl)))
  (e_Lok (sm_iadd (x_dk dn_438_0_1_ok 8 rfl)))))))))
def te_438_34 : Nat → eE := (e_T 117 (e_T 104 (e_T 98 (e_T 96 (e_T 95 (e_L 95 (0, ei_ald elay false 96, 0, 0)) (e_L 96 (1, e_nof, 1, 0))) (e_T 97 (e_L 97 (0, ei_load 0 2 98, 0, 0)) (e_L 98 (0, ei_getf eft elay 12 0 101, 0, 0)))) (e_T 102 (e_T 101 (e_L 101 (0, ei_load 3 0 102, 0, 0)) (e_L 102 (0, ei_push (0, 2) 103, 0, 0))) (e_T 103 (e_L 103 (0, ei_bin eF_add 104, 0, 0)) (e_L 104 (0, ei_ald elay false 105, 0, 0))))) (e_T 110 (e_T 106 (e_T 105 (e_L 105 (1, e_nof, 1, 0)) (e_L 106 (0, ei_load 0 2 107, 0, 0))) (e_T 107 (e_L 107 (0, ei_getf eft elay 12 75 110, 0, 0)) (e_L 110 (0, ei_load 1 0 111, 0, 0)))) (e_T 112 (e_T 111 (e_L 111 (0, ei_ald elay false 112, 0, 0)) (e_L 112 (1, e_nof, 1, 0))) (e_T 113 (e_L 113 (0, ei_load 0 2 114, 0, 0)) (e_T 114 (e_L 114 (0, ei_getf eft elay 12 0 117, 0, 0)) (e_L 117 (0, ei_load 3 0 118, 0, 0))))))) (e_T 128 (e_T 121 (e_T 119 (e_T 118 (e_L 118 (0, ei_push (0, 3) 119, 0, 0)) (e_L 119 (0, ei_bin eF_add 120, 0, 0))) (e_T 120 (e_L 120 (0, ei_ald elay false 121, 0, 0)) (e_L 121 (1, e_nof, 1, 0)))) (e_T 123 (e_T 122 (e_L 122 (0, ei_load 0 2 123, 0, 0)) (e_L 123 (0, ei_getf eft elay 12 0 126, 0, 0))) (e_T 126 (e_L 126 (0, ei_load 3 0 127, 0, 0)) (e_T 127 (e_L 127 (0, ei_push (0, 4) 128, 0, 0)) (e_L 128 (0, ei_bin eF_add 129, 0, 0)))))) (e_T 132 (e_T 130 (e_T 129 (e_L 129 (0, ei_ald elay false 130, 0, 0)) (e_L 130 (1, e_nof, 1, 0))) (e_T 131 (e_L 131 (0, ei_load 0 2 132, 0, 0)) (e_L 132 (0, ei_getf eft elay 12 0 135, 0, 0)))) (e_T 136 (e_T 135 (e_L 135 (0, ei_load 3 0 136, 0, 0)) (e_L 136 (0, ei_push (0, 6) 138, 0, 0))) (e_T 138 (e_L 138 (0, ei_bin eF_add 139, 0, 0)) (e_T 139 (e_L 139 (0, ei_ald elay false 140, 0, 0)) (e_L 140 (1, e_nof, 1, 0))))))))
set_option maxRecDepth 20000 in
set_option maxHeartbeats 4000000 in
theorem te_438_34_ok : ∀ pc, e_EOq eft cls elay eI n_438 pc (te_438_34 pc) :=
  (e_Tok2
  (e_Tok2
  (e_Tok2
  (e_Tok2
  (e_Tok2
  (e_Lok (sm_iaload (x_dk dn_438_0_1_ok 9 rfl)))
  (e_Lok (e_rt (I := eI) (k := 1) ⟨(x_dk dn_438_0_1_ok 10 rfl), rfl⟩)))
  (e_Tok2
  (e_Lok (ld_aload_n_0 (x_dk dn_438_0_1_ok 11 rfl)))
  (e_Lok (lk_12_8g ho_438 (x_dk dn_438_0_1_ok 12 rfl)))))
  (e_Tok2
  (e_Tok2
  (e_Lok (ld_iload_n_3 (x_dk dn_438_0_1_ok 13 rfl)))
  (e_Lok (ps_iconst_2 (x_dk dn_438_0_1_ok 14 rfl))))
  (e_Tok2
  (e_Lok (sm_iadd (x_dk dn_438_0_1_ok 15 rfl)))
  (e_Lok (sm_iaload (x_dk dn_438_0_1_ok 16 rfl))))))
  (e_Tok2
  (e_Tok2
  (e_Tok2
  (e_Lok (e_rt (I := eI) (k := 1) ⟨(x_dk dn_438_0_1_ok 17 rfl), rfl⟩))
  (e_Lok (ld_aload_n_0 (x_dk dn_438_0_1_ok 18 rfl))))
  (e_Tok2
  (e_Lok (lk_12_201g ho_438 (x_dk dn_438_0_1_ok 19 rfl)))
  (e_Lok (ld_iload_n_1 (x_dk dn_438_0_1_ok 20 rfl)))))
  (e_Tok2
  (e_Tok2
  (e_Lok (sm_iaload (x_dk dn_438_0_1_ok 21 rfl)))
  (e_Lok (e_rt (I := eI) (k := 1) ⟨(x_dk dn_438_0_1_ok 22 rfl), rfl⟩)))
  (e_Tok2
  (e_Lok (ld_aload_n_0 (x_dk dn_438_0_1_ok 23 rfl)))
  (e_Tok2
  (e_Lok (lk_12_8g ho_438 (x_dk dn_438_0_1_ok 24 rfl)))
  (e_Lok (ld_iload_n_3 (x_dk dn_438_0_2_ok 0 rfl))))))))
  (e_Tok2
  (e_Tok2
  (e_Tok2
  (e_Tok2
  (e_Lok (ps_iconst_3 (x_dk dn_438_0_2_ok 1 rfl)))
  (e_Lok (sm_iadd (x_dk dn_438_0_2_ok 2 rfl))))
  (e_Tok2
  (e_Lok (sm_iaload (x_dk dn_438_0_2_ok 3 rfl)))
  (e_Lok (e_rt (I := eI) (k := 1) ⟨(x_dk dn_438_0_2_ok 4 rfl), rfl⟩))))
  (e_Tok2
  (e_Tok2
  (e_Lok (ld_aload_n_0 (x_dk dn_438_0_2_ok 5 rfl)))
  (e_Lok (lk_12_8g ho_438 (x_dk dn_438_0_2_ok 6 rfl))))
  (e_Tok2
  (e_Lok (ld_iload_n_3 (x_dk dn_438_0_2_ok 7 rfl)))
  (e_Tok2
  (e_Lok (ps_iconst_4 (x_dk dn_438_0_2_ok 8 rfl)))
  (e_Lok (sm_iadd (x_dk dn_438_0_2_ok 9 rfl)))))))
  (e_Tok2
  (e_Tok2
  (e_Tok2
  (e_Lok (sm_iaload (x_dk dn_438_0_2_ok 10 rfl)))
  (e_Lok (e_rt (I := eI) (k := 1) ⟨(x_dk dn_438_0_2_ok 11 rfl), rfl⟩)))
  (e_Tok2
  (e_Lok (ld_aload_n_0 (x_dk dn_438_0_2_ok 12 rfl)))
  (e_Lok (lk_12_8g ho_438 (x_dk dn_438_0_2_ok 13 rfl)))))
  (e_Tok2
  (e_Tok2
  (e_Lok (ld_iload_n_3 (x_dk dn_438_0_2_ok 14 rfl)))
  (e_Lok (ps_bipush_6 (x_dk dn_438_0_2_ok 15 rfl))))
  (e_Tok2
  (e_Lok (sm_iadd (x_dk dn_438_0_2_ok 16 rfl)))
  (e_Tok2
  (e_Lok (sm_iaload (x_dk dn_438_0_2_ok 17 rfl)))
  (e_Lok (e_rt (I := eI) (k := 1) ⟨(x_dk dn_438_0_2_ok 18 rfl), rfl⟩))))))))
def te_438 : Nat → eE := (e_T 94 te_438_0 te_438_34)
theorem te_438_ok : ∀ pc, e_EOq eft cls elay eI n_438 pc (te_438 pc) := (e_Tok2 (te_438_0_ok) (te_438_34_ok))
theorem ho_439 : (xm_y n_439).cls = "RobotCellHouseModel" := rfl
def dn_439_0_0 : List (Nat × Instr × Nat) := [(0, .aload_n 0, 1), (1, .iload_n 1, 1), (2, .iload_n 2, 1), (3, .invokevirtual 333, 3), (6, .ifCond .eq 20, 3), (9, .aload_n 0, 1), (10, .getfield 8, 3), (13, .iload_n 1, 1), (14, .invokestatic 294, 3), (17, .bipush 16, 2), (19, .iadd, 1), (20, .iload_n 2, 1), (21, .iadd, 1), (22, .iaload, 1), (23, .goto 4, 3), (26, .iconst (-1), 1), (27, .ireturn, 1)]
set_option maxRecDepth 20000 in
theorem dn_439_0_0_ok : dn_439_0_0.all (fun q => decide (decode (xm_b n_439) q.1 = .ok (q.2.1, q.2.2))) = true := xa_g_ok (by decide +kernel)
def te_439_0 : Nat → eE := (e_T 13 (e_T 3 (e_T 1 (e_T 0 (e_L 0 (0, ei_load 0 2 1, 0, 0)) (e_L 1 (0, ei_load 1 0 2, 0, 0))) (e_T 2 (e_L 2 (0, ei_load 2 0 3, 0, 0)) (e_L 3 (2, e_nof, 271, 3)))) (e_T 9 (e_T 6 (e_L 6 (0, ei_if1 0 26 9, 0, 0)) (e_L 9 (0, ei_load 0 2 10, 0, 0))) (e_T 10 (e_L 10 (0, ei_getf eft elay 12 0 13, 0, 0)) (e_L 13 (0, ei_load 1 0 14, 0, 0))))) (e_T 20 (e_T 17 (e_T 14 (e_L 14 (2, e_nof, 268, 1)) (e_L 17 (0, ei_push (0, 16) 19, 0, 0))) (e_T 19 (e_L 19 (0, ei_bin eF_add 20, 0, 0)) (e_L 20 (0, ei_load 2 0 21, 0, 0)))) (e_T 22 (e_T 21 (e_L 21 (0, ei_bin eF_add 22, 0, 0)) (e_L 22 (0, ei_ald elay false 23, 0, 0))) (e_T 23 (e_L 23 (0, ei_goto 27, 0, 0)) (e_T 26 (e_L 26 (0, ei_push (0, (-1)) 27, 0, 0)) (e_L 27 (1, e_nof, 1, 0)))))))
set_option maxRecDepth 20000 in
set_option maxHeartbeats 4000000 in
theorem te_439_0_ok : ∀ pc, e_EOq eft cls elay eI n_439 pc (te_439_0 pc) :=
  (e_Tok2
  (e_Tok2
  (e_Tok2
  (e_Tok2
  (e_Lok (ld_aload_n_0 (x_dk dn_439_0_0_ok 0 rfl)))
  (e_Lok (ld_iload_n_1 (x_dk dn_439_0_0_ok 1 rfl))))
  (e_Tok2
  (e_Lok (ld_iload_n_2 (x_dk dn_439_0_0_ok 2 rfl)))
  (e_Lok (lk_12_333 ho_439 (x_dk dn_439_0_0_ok 3 rfl)))))
  (e_Tok2
  (e_Tok2
  (e_Lok (e_st (I := eI) (er_ifeq (off := 20) (tg := 26) (x_dk dn_439_0_0_ok 4 rfl) (by decide)) nx_if1))
  (e_Lok (ld_aload_n_0 (x_dk dn_439_0_0_ok 5 rfl))))
  (e_Tok2
  (e_Lok (lk_12_8g ho_439 (x_dk dn_439_0_0_ok 6 rfl)))
  (e_Lok (ld_iload_n_1 (x_dk dn_439_0_0_ok 7 rfl))))))
  (e_Tok2
  (e_Tok2
  (e_Tok2
  (e_Lok (lk_12_294 ho_439 (x_dk dn_439_0_0_ok 8 rfl)))
  (e_Lok (ps_bipush_16 (x_dk dn_439_0_0_ok 9 rfl))))
  (e_Tok2
  (e_Lok (sm_iadd (x_dk dn_439_0_0_ok 10 rfl)))
  (e_Lok (ld_iload_n_2 (x_dk dn_439_0_0_ok 11 rfl)))))
  (e_Tok2
  (e_Tok2
  (e_Lok (sm_iadd (x_dk dn_439_0_0_ok 12 rfl)))
  (e_Lok (sm_iaload (x_dk dn_439_0_0_ok 13 rfl))))
  (e_Tok2
  (e_Lok (e_st (I := eI) (er_goto (off := 4) (tg := 27) (x_dk dn_439_0_0_ok 14 rfl) (by decide)) nx_goto))
  (e_Tok2
  (e_Lok (ps_iconst_m1 (x_dk dn_439_0_0_ok 15 rfl)))
  (e_Lok (e_rt (I := eI) (k := 1) ⟨(x_dk dn_439_0_0_ok 16 rfl), rfl⟩)))))))
def te_439 : Nat → eE := te_439_0
theorem te_439_ok : ∀ pc, e_EOq eft cls elay eI n_439 pc (te_439 pc) := te_439_0_ok
theorem ho_440 : (xm_y n_440).cls = "RobotCellHouseModel" := rfl
def dn_440_0_0 : List (Nat × Instr × Nat) := [(0, .aload_n 0, 1), (1, .iload_n 1, 1), (2, .invokevirtual 305, 3), (5, .ifCond .eq 29, 3), (8, .iload_n 2, 1), (9, .i2l, 1), (10, .lconst 0, 1), (11, .aload_n 0, 1), (12, .getfield 43, 3), (15, .iload_n 1, 1), (16, .iaload, 1), (17, .i2l, 1), (18, .invokestatic 301, 3), (21, .ifCond .eq 13, 3), (24, .iload_n 3, 1), (25, .i2l, 1), (26, .lconst 0, 1), (27, .lconst 1, 1), (28, .invokestatic 301, 3), (31, .ifCond .ne 5, 3), (34, .iconst (-1), 1), (35, .ireturn, 1), (36, .aload_n 0, 1), (37, .iload_n 1, 1), (38, .iconst 0, 1)]
set_option maxRecDepth 20000 in
theorem dn_440_0_0_ok : dn_440_0_0.all (fun q => decide (decode (xm_b n_440) q.1 = .ok (q.2.1, q.2.2))) = true := xa_g_ok (by decide +kernel)
def dn_440_0_1 : List (Nat × Instr × Nat) := [(39, .invokevirtual 397, 3), (42, .iload_n 3, 1), (43, .ifCond .ne 17, 3), (46, .aload_n 0, 1), (47, .getfield 149, 3), (50, .bipush 7, 2), (52, .iload_n 1, 1), (53, .imul, 1), (54, .iload_n 2, 1), (55, .iadd, 1), (56, .iaload, 1), (57, .goto 14, 3), (60, .aload_n 0, 1), (61, .getfield 152, 3), (64, .bipush 7, 2), (66, .iload_n 1, 1), (67, .imul, 1), (68, .iload_n 2, 1), (69, .iadd, 1), (70, .iaload, 1), (71, .ireturn, 1)]
set_option maxRecDepth 20000 in
theorem dn_440_0_1_ok : dn_440_0_1.all (fun q => decide (decode (xm_b n_440) q.1 = .ok (q.2.1, q.2.2))) = true := xa_g_ok (by decide +kernel)
def te_440_0 : Nat → eE := (e_T 16 (e_T 8 (e_T 1 (e_T 0 (e_L 0 (0, ei_load 0 2 1, 0, 0)) (e_L 1 (0, ei_load 1 0 2, 0, 0))) (e_T 2 (e_L 2 (2, e_nof, 270, 2)) (e_T 5 (e_L 5 (0, ei_if1 0 34 8, 0, 0)) (e_L 8 (0, ei_load 2 0 9, 0, 0))))) (e_T 11 (e_T 9 (e_L 9 (0, ei_un (fun x => (4, x)) 10, 0, 0)) (e_T 10 (e_L 10 (0, ei_push (4, 0) 11, 0, 0)) (e_L 11 (0, ei_load 0 2 12, 0, 0)))) (e_T 12 (e_L 12 (0, ei_getf eft elay 12 15 15, 0, 0)) (e_T 15 (e_L 15 (0, ei_load 1 0 16, 0, 0)) (e_L 16 (0, ei_ald elay false 17, 0, 0)))))) (e_T 26 (e_T 21 (e_T 17 (e_L 17 (0, ei_un (fun x => (4, x)) 18, 0, 0)) (e_T 18 (e_L 18 (2, e_nof, 266, 3)) (e_L 21 (0, ei_if1 0 34 24, 0, 0)))) (e_T 24 (e_L 24 (0, ei_load 3 0 25, 0, 0)) (e_T 25 (e_L 25 (0, ei_un (fun x => (4, x)) 26, 0, 0)) (e_L 26 (0, ei_push (4, 0) 27, 0, 0))))) (e_T 31 (e_T 27 (e_L 27 (0, ei_push (4, 1) 28, 0, 0)) (e_T 28 (e_L 28 (2, e_nof, 266, 3)) (e_L 31 (0, ei_if1 1 36 34, 0, 0)))) (e_T 34 (e_L 34 (0, ei_push (0, (-1)) 35, 0, 0)) (e_T 35 (e_L 35 (1, e_nof, 1, 0)) (e_L 36 (0, ei_load 0 2 37, 0, 0)))))))
set_option maxRecDepth 20000 in
set_option maxHeartbeats 4000000 in
theorem te_440_0_ok : ∀ pc, e_EOq eft cls elay eI n_440 pc (te_440_0 pc) :=
  (e_Tok2
  (e_Tok2
  (e_Tok2
  (e_Tok2
  (e_Lok (ld_aload_n_0 (x_dk dn_440_0_0_ok 0 rfl)))
  (e_Lok (ld_iload_n_1 (x_dk dn_440_0_0_ok 1 rfl))))
  (e_Tok2
  (e_Lok (lk_12_305 ho_440 (x_dk dn_440_0_0_ok 2 rfl)))
  (e_Tok2
  (e_Lok (e_st (I := eI) (er_ifeq (off := 29) (tg := 34) (x_dk dn_440_0_0_ok 3 rfl) (by decide)) nx_if1))
  (e_Lok (ld_iload_n_2 (x_dk dn_440_0_0_ok 4 rfl))))))
  (e_Tok2
  (e_Tok2
  (e_Lok (e_st (I := eI) (er_i2l (x_dk dn_440_0_0_ok 5 rfl)) (nx_un (fun _ => rfl))))
  (e_Tok2
  (e_Lok (ps_lconst_0 (x_dk dn_440_0_0_ok 6 rfl)))
  (e_Lok (ld_aload_n_0 (x_dk dn_440_0_0_ok 7 rfl)))))
  (e_Tok2
  (e_Lok (lk_12_43g ho_440 (x_dk dn_440_0_0_ok 8 rfl)))
  (e_Tok2
  (e_Lok (ld_iload_n_1 (x_dk dn_440_0_0_ok 9 rfl)))
  (e_Lok (sm_iaload (x_dk dn_440_0_0_ok 10 rfl)))))))
  (e_Tok2
  (e_Tok2
  (e_Tok2
  (e_Lok (e_st (I := eI) (er_i2l (x_dk dn_440_0_0_ok 11 rfl)) (nx_un (fun _ => rfl))))
  (e_Tok2
  (e_Lok (lk_12_301 ho_440 (x_dk dn_440_0_0_ok 12 rfl)))
  (e_Lok (e_st (I := eI) (er_ifeq (off := 13) (tg := 34) (x_dk dn_440_0_0_ok 13 rfl) (by decide)) nx_if1))))
  (e_Tok2
  (e_Lok (ld_iload_n_3 (x_dk dn_440_0_0_ok 14 rfl)))
  (e_Tok2
  (e_Lok (e_st (I := eI) (er_i2l (x_dk dn_440_0_0_ok 15 rfl)) (nx_un (fun _ => rfl))))
  (e_Lok (ps_lconst_0 (x_dk dn_440_0_0_ok 16 rfl))))))
  (e_Tok2
  (e_Tok2
  (e_Lok (ps_lconst_1 (x_dk dn_440_0_0_ok 17 rfl)))
  (e_Tok2
  (e_Lok (lk_12_301 ho_440 (x_dk dn_440_0_0_ok 18 rfl)))
  (e_Lok (e_st (I := eI) (er_ifne (off := 5) (tg := 36) (x_dk dn_440_0_0_ok 19 rfl) (by decide)) nx_if1))))
  (e_Tok2
  (e_Lok (ps_iconst_m1 (x_dk dn_440_0_0_ok 20 rfl)))
  (e_Tok2
  (e_Lok (e_rt (I := eI) (k := 1) ⟨(x_dk dn_440_0_0_ok 21 rfl), rfl⟩))
  (e_Lok (ld_aload_n_0 (x_dk dn_440_0_0_ok 22 rfl))))))))
def te_440_23 : Nat → eE := (e_T 54 (e_T 43 (e_T 38 (e_T 37 (e_L 37 (0, ei_load 1 0 38, 0, 0)) (e_L 38 (0, ei_push (0, 0) 39, 0, 0))) (e_T 39 (e_L 39 (2, e_nof, 301, 3)) (e_T 42 (e_L 42 (0, ei_load 3 0 43, 0, 0)) (e_L 43 (0, ei_if1 1 60 46, 0, 0))))) (e_T 50 (e_T 46 (e_L 46 (0, ei_load 0 2 47, 0, 0)) (e_T 47 (e_L 47 (0, ei_getf eft elay 12 55 50, 0, 0)) (e_L 50 (0, ei_push (0, 7) 52, 0, 0)))) (e_T 52 (e_L 52 (0, ei_load 1 0 53, 0, 0)) (e_T 53 (e_L 53 (0, ei_bin eF_mul 54, 0, 0)) (e_L 54 (0, ei_load 2 0 55, 0, 0)))))) (e_T 64 (e_T 57 (e_T 55 (e_L 55 (0, ei_bin eF_add 56, 0, 0)) (e_T 56 (e_L 56 (0, ei_ald elay false 57, 0, 0)) (e_L 57 (0, ei_goto 71, 0, 0)))) (e_T 60 (e_L 60 (0, ei_load 0 2 61, 0, 0)) (e_T 61 (e_L 61 (0, ei_getf eft elay 12 56 64, 0, 0)) (e_L 64 (0, ei_push (0, 7) 66, 0, 0))))) (e_T 68 (e_T 66 (e_L 66 (0, ei_load 1 0 67, 0, 0)) (e_T 67 (e_L 67 (0, ei_bin eF_mul 68, 0, 0)) (e_L 68 (0, ei_load 2 0 69, 0, 0)))) (e_T 69 (e_L 69 (0, ei_bin eF_add 70, 0, 0)) (e_T 70 (e_L 70 (0, ei_ald elay false 71, 0, 0)) (e_L 71 (1, e_nof, 1, 0)))))))
set_option maxRecDepth 20000 in
set_option maxHeartbeats 4000000 in
theorem te_440_23_ok : ∀ pc, e_EOq eft cls elay eI n_440 pc (te_440_23 pc) :=
  (e_Tok2
  (e_Tok2
  (e_Tok2
  (e_Tok2
  (e_Lok (ld_iload_n_1 (x_dk dn_440_0_0_ok 23 rfl)))
  (e_Lok (ps_iconst_0 (x_dk dn_440_0_0_ok 24 rfl))))
  (e_Tok2
  (e_Lok (lk_12_397 ho_440 (x_dk dn_440_0_1_ok 0 rfl)))
  (e_Tok2
  (e_Lok (ld_iload_n_3 (x_dk dn_440_0_1_ok 1 rfl)))
  (e_Lok (e_st (I := eI) (er_ifne (off := 17) (tg := 60) (x_dk dn_440_0_1_ok 2 rfl) (by decide)) nx_if1)))))
  (e_Tok2
  (e_Tok2
  (e_Lok (ld_aload_n_0 (x_dk dn_440_0_1_ok 3 rfl)))
  (e_Tok2
  (e_Lok (lk_12_149g ho_440 (x_dk dn_440_0_1_ok 4 rfl)))
  (e_Lok (ps_bipush_7 (x_dk dn_440_0_1_ok 5 rfl)))))
  (e_Tok2
  (e_Lok (ld_iload_n_1 (x_dk dn_440_0_1_ok 6 rfl)))
  (e_Tok2
  (e_Lok (sm_imul (x_dk dn_440_0_1_ok 7 rfl)))
  (e_Lok (ld_iload_n_2 (x_dk dn_440_0_1_ok 8 rfl)))))))
  (e_Tok2
  (e_Tok2
  (e_Tok2
  (e_Lok (sm_iadd (x_dk dn_440_0_1_ok 9 rfl)))
  (e_Tok2
  (e_Lok (sm_iaload (x_dk dn_440_0_1_ok 10 rfl)))
  (e_Lok (e_st (I := eI) (er_goto (off := 14) (tg := 71) (x_dk dn_440_0_1_ok 11 rfl) (by decide)) nx_goto))))
  (e_Tok2
  (e_Lok (ld_aload_n_0 (x_dk dn_440_0_1_ok 12 rfl)))
  (e_Tok2
  (e_Lok (lk_12_152g ho_440 (x_dk dn_440_0_1_ok 13 rfl)))
  (e_Lok (ps_bipush_7 (x_dk dn_440_0_1_ok 14 rfl))))))
  (e_Tok2
  (e_Tok2
  (e_Lok (ld_iload_n_1 (x_dk dn_440_0_1_ok 15 rfl)))
  (e_Tok2
  (e_Lok (sm_imul (x_dk dn_440_0_1_ok 16 rfl)))
  (e_Lok (ld_iload_n_2 (x_dk dn_440_0_1_ok 17 rfl)))))
  (e_Tok2
  (e_Lok (sm_iadd (x_dk dn_440_0_1_ok 18 rfl)))
  (e_Tok2
  (e_Lok (sm_iaload (x_dk dn_440_0_1_ok 19 rfl)))
  (e_Lok (e_rt (I := eI) (k := 1) ⟨(x_dk dn_440_0_1_ok 20 rfl), rfl⟩)))))))
def te_440 : Nat → eE := (e_T 36 te_440_0 te_440_23)
theorem te_440_ok : ∀ pc, e_EOq eft cls elay eI n_440 pc (te_440 pc) := (e_Tok2 (te_440_0_ok) (te_440_23_ok))
theorem ho_441 : (xm_y n_441).cls = "RobotCellHouseModel" := rfl
def dn_441_0_0 : List (Nat × Instr × Nat) := [(0, .aload_n 0, 1), (1, .iload_n 1, 1), (2, .invokevirtual 305, 3), (5, .ifCond .eq 45, 3), (8, .iload_n 2, 1), (9, .i2l, 1), (10, .lconst 0, 1), (11, .aload_n 0, 1), (12, .getfield 8, 3), (15, .iload_n 1, 1), (16, .invokestatic 294, 3), (19, .iconst 3, 1), (20, .iadd, 1), (21, .iaload, 1), (22, .iconst 1, 1), (23, .isub, 1), (24, .i2l, 1), (25, .invokestatic 301, 3), (28, .ifCond .eq 22, 3), (31, .aload_n 0, 1), (32, .getfield 8, 3), (35, .sipush 21060, 3), (38, .sipush 1000, 3), (41, .iload_n 1, 1), (42, .imul, 1)]
set_option maxRecDepth 20000 in
theorem dn_441_0_0_ok : dn_441_0_0.all (fun q => decide (decode (xm_b n_441) q.1 = .ok (q.2.1, q.2.2))) = true := xa_g_ok (by decide +kernel)
def dn_441_0_1 : List (Nat × Instr × Nat) := [(43, .iadd, 1), (44, .iload_n 2, 1), (45, .iadd, 1), (46, .iaload, 1), (47, .goto 4, 3), (50, .iconst (-1), 1), (51, .ireturn, 1)]
set_option maxRecDepth 20000 in
theorem dn_441_0_1_ok : dn_441_0_1.all (fun q => decide (decode (xm_b n_441) q.1 = .ok (q.2.1, q.2.2))) = true := xa_g_ok (by decide +kernel)
def te_441_0 : Nat → eE := (e_T 23 (e_T 11 (e_T 5 (e_T 1 (e_T 0 (e_L 0 (0, ei_load 0 2 1, 0, 0)) (e_L 1 (0, ei_load 1 0 2, 0, 0))) (e_T 2 (e_L 2 (2, e_nof, 270, 2)) (e_L 5 (0, ei_if1 0 50 8, 0, 0)))) (e_T 9 (e_T 8 (e_L 8 (0, ei_load 2 0 9, 0, 0)) (e_L 9 (0, ei_un (fun x => (4, x)) 10, 0, 0))) (e_T 10 (e_L 10 (0, ei_push (4, 0) 11, 0, 0)) (e_L 11 (0, ei_load 0 2 12, 0, 0))))) (e_T 19 (e_T 15 (e_T 12 (e_L 12 (0, ei_getf eft elay 12 0 15, 0, 0)) (e_L 15 (0, ei_load 1 0 16, 0, 0))) (e_T 16 (e_L 16 (2, e_nof, 268, 1)) (e_L 19 (0, ei_push (0, 3) 20, 0, 0)))) (e_T 21 (e_T 20 (e_L 20 (0, ei_bin eF_add 21, 0, 0)) (e_L 21 (0, ei_ald elay false 22, 0, 0))) (e_T 22 (e_L 22 (0, ei_push (0, 1) 23, 0, 0)) (e_L 23 (0, ei_bin eF_sub 24, 0, 0)))))) (e_T 41 (e_T 31 (e_T 25 (e_T 24 (e_L 24 (0, ei_un (fun x => (4, x)) 25, 0, 0)) (e_L 25 (2, e_nof, 266, 3))) (e_T 28 (e_L 28 (0, ei_if1 0 50 31, 0, 0)) (e_L 31 (0, ei_load 0 2 32, 0, 0)))) (e_T 35 (e_T 32 (e_L 32 (0, ei_getf eft elay 12 0 35, 0, 0)) (e_L 35 (0, ei_push (0, 21060) 38, 0, 0))) (e_T 38 (e_L 38 (0, ei_push (0, 1000) 41, 0, 0)) (e_L 41 (0, ei_load 1 0 42, 0, 0))))) (e_T 45 (e_T 43 (e_T 42 (e_L 42 (0, ei_bin eF_mul 43, 0, 0)) (e_L 43 (0, ei_bin eF_add 44, 0, 0))) (e_T 44 (e_L 44 (0, ei_load 2 0 45, 0, 0)) (e_L 45 (0, ei_bin eF_add 46, 0, 0)))) (e_T 47 (e_T 46 (e_L 46 (0, ei_ald elay false 47, 0, 0)) (e_L 47 (0, ei_goto 51, 0, 0))) (e_T 50 (e_L 50 (0, ei_push (0, (-1)) 51, 0, 0)) (e_L 51 (1, e_nof, 1, 0)))))))
set_option maxRecDepth 20000 in
set_option maxHeartbeats 4000000 in
theorem te_441_0_ok : ∀ pc, e_EOq eft cls elay eI n_441 pc (te_441_0 pc) :=
  (e_Tok2
  (e_Tok2
  (e_Tok2
  (e_Tok2
  (e_Tok2
  (e_Lok (ld_aload_n_0 (x_dk dn_441_0_0_ok 0 rfl)))
  (e_Lok (ld_iload_n_1 (x_dk dn_441_0_0_ok 1 rfl))))
  (e_Tok2
  (e_Lok (lk_12_305 ho_441 (x_dk dn_441_0_0_ok 2 rfl)))
  (e_Lok (e_st (I := eI) (er_ifeq (off := 45) (tg := 50) (x_dk dn_441_0_0_ok 3 rfl) (by decide)) nx_if1))))
  (e_Tok2
  (e_Tok2
  (e_Lok (ld_iload_n_2 (x_dk dn_441_0_0_ok 4 rfl)))
  (e_Lok (e_st (I := eI) (er_i2l (x_dk dn_441_0_0_ok 5 rfl)) (nx_un (fun _ => rfl)))))
  (e_Tok2
  (e_Lok (ps_lconst_0 (x_dk dn_441_0_0_ok 6 rfl)))
  (e_Lok (ld_aload_n_0 (x_dk dn_441_0_0_ok 7 rfl))))))
  (e_Tok2
  (e_Tok2
  (e_Tok2
  (e_Lok (lk_12_8g ho_441 (x_dk dn_441_0_0_ok 8 rfl)))
  (e_Lok (ld_iload_n_1 (x_dk dn_441_0_0_ok 9 rfl))))
  (e_Tok2
  (e_Lok (lk_12_294 ho_441 (x_dk dn_441_0_0_ok 10 rfl)))
  (e_Lok (ps_iconst_3 (x_dk dn_441_0_0_ok 11 rfl)))))
  (e_Tok2
  (e_Tok2
  (e_Lok (sm_iadd (x_dk dn_441_0_0_ok 12 rfl)))
  (e_Lok (sm_iaload (x_dk dn_441_0_0_ok 13 rfl))))
  (e_Tok2
  (e_Lok (ps_iconst_1 (x_dk dn_441_0_0_ok 14 rfl)))
  (e_Lok (sm_isub (x_dk dn_441_0_0_ok 15 rfl)))))))
  (e_Tok2
  (e_Tok2
  (e_Tok2
  (e_Tok2
  (e_Lok (e_st (I := eI) (er_i2l (x_dk dn_441_0_0_ok 16 rfl)) (nx_un (fun _ => rfl))))
  (e_Lok (lk_12_301 ho_441 (x_dk dn_441_0_0_ok 17 rfl))))
  (e_Tok2
  (e_Lok (e_st (I := eI) (er_ifeq (off := 22) (tg := 50) (x_dk dn_441_0_0_ok 18 rfl) (by decide)) nx_if1))
  (e_Lok (ld_aload_n_0 (x_dk dn_441_0_0_ok 19 rfl)))))
  (e_Tok2
  (e_Tok2
  (e_Lok (lk_12_8g ho_441 (x_dk dn_441_0_0_ok 20 rfl)))
  (e_Lok (ps_sipush_21060 (x_dk dn_441_0_0_ok 21 rfl))))
  (e_Tok2
  (e_Lok (ps_sipush_1000 (x_dk dn_441_0_0_ok 22 rfl)))
  (e_Lok (ld_iload_n_1 (x_dk dn_441_0_0_ok 23 rfl))))))
  (e_Tok2
  (e_Tok2
  (e_Tok2
  (e_Lok (sm_imul (x_dk dn_441_0_0_ok 24 rfl)))
  (e_Lok (sm_iadd (x_dk dn_441_0_1_ok 0 rfl))))
  (e_Tok2
  (e_Lok (ld_iload_n_2 (x_dk dn_441_0_1_ok 1 rfl)))
  (e_Lok (sm_iadd (x_dk dn_441_0_1_ok 2 rfl)))))
  (e_Tok2
  (e_Tok2
  (e_Lok (sm_iaload (x_dk dn_441_0_1_ok 3 rfl)))
  (e_Lok (e_st (I := eI) (er_goto (off := 4) (tg := 51) (x_dk dn_441_0_1_ok 4 rfl) (by decide)) nx_goto)))
  (e_Tok2
  (e_Lok (ps_iconst_m1 (x_dk dn_441_0_1_ok 5 rfl)))
  (e_Lok (e_rt (I := eI) (k := 1) ⟨(x_dk dn_441_0_1_ok 6 rfl), rfl⟩)))))))
def te_441 : Nat → eE := te_441_0
theorem te_441_ok : ∀ pc, e_EOq eft cls elay eI n_441 pc (te_441 pc) := te_441_0_ok
theorem ho_442 : (xm_y n_442).cls = "RobotCellHouseModel" := rfl
def dn_442_0_0 : List (Nat × Instr × Nat) := [(0, .iload_n 1, 1), (1, .i2l, 1), (2, .lconst 0, 1), (3, .ldc2_w 922, 3), (6, .invokestatic 301, 3), (9, .ifCond .eq 15, 3), (12, .iload_n 2, 1), (13, .i2l, 1), (14, .lconst 0, 1), (15, .ldc2_w 348, 3), (18, .invokestatic 301, 3), (21, .ifCond .ne 5, 3), (24, .iconst (-1), 1), (25, .ireturn, 1), (26, .aload_n 0, 1), (27, .getfield 8, 3), (30, .iload_n 1, 1), (31, .invokestatic 298, 3), (34, .iload_n 2, 1), (35, .iconst 3, 1), (36, .if_icmp .ge 7, 3), (39, .iload_n 2, 1), (40, .goto 5, 3), (43, .bipush 12, 2), (45, .iadd, 1)]
set_option maxRecDepth 20000 in
theorem dn_442_0_0_ok : dn_442_0_0.all (fun q => decide (decode (xm_b n_442) q.1 = .ok (q.2.1, q.2.2))) = true := xa_g_ok (by decide +kernel)
def dn_442_0_1 : List (Nat × Instr × Nat) := [(46, .iaload, 1), (47, .ireturn, 1)]
set_option maxRecDepth 20000 in
theorem dn_442_0_1_ok : dn_442_0_1.all (fun q => decide (decode (xm_b n_442) q.1 = .ok (q.2.1, q.2.2))) = true := xa_g_ok (by decide +kernel)
def te_442_0 : Nat → eE := (e_T 24 (e_T 9 (e_T 2 (e_T 0 (e_L 0 (0, ei_load 1 0 1, 0, 0)) (e_T 1 (e_L 1 (0, ei_un (fun x => (4, x)) 2, 0, 0)) (e_L 2 (0, ei_push (4, 0) 3, 0, 0)))) (e_T 3 (e_L 3 (0, ei_push (4, 15) 6, 0, 0)) (e_T 6 (e_L 6 (2, e_nof, 266, 3)) (e_L 9 (0, ei_if1 0 24 12, 0, 0))))) (e_T 14 (e_T 12 (e_L 12 (0, ei_load 2 0 13, 0, 0)) (e_T 13 (e_L 13 (0, ei_un (fun x => (4, x)) 14, 0, 0)) (e_L 14 (0, ei_push (4, 0) 15, 0, 0)))) (e_T 18 (e_T 15 (e_L 15 (0, ei_push (4, 3) 18, 0, 0)) (e_L 18 (2, e_nof, 266, 3))) (e_T 21 (e_L 21 (0, ei_if1 1 26 24, 0, 0)) (e_L 24 (0, ei_push (0, (-1)) 25, 0, 0)))))) (e_T 35 (e_T 27 (e_T 25 (e_L 25 (1, e_nof, 1, 0)) (e_T 26 (e_L 26 (0, ei_load 0 2 27, 0, 0)) (e_L 27 (0, ei_getf eft elay 12 0 30, 0, 0)))) (e_T 31 (e_T 30 (e_L 30 (0, ei_load 1 0 31, 0, 0)) (e_L 31 (2, e_nof, 269, 1))) (e_T 34 (e_L 34 (0, ei_load 2 0 35, 0, 0)) (e_L 35 (0, ei_push (0, 3) 36, 0, 0))))) (e_T 40 (e_T 36 (e_L 36 (0, ei_if2 3 43 39, 0, 0)) (e_T 39 (e_L 39 (0, ei_load 2 0 40, 0, 0)) (e_L 40 (0, ei_goto 45, 0, 0)))) (e_T 45 (e_T 43 (e_L 43 (0, ei_push (0, 12) 45, 0, 0)) (e_L 45 (0, ei_bin eF_add 46, 0, 0))) (e_T 46 (e_L 46 (0, ei_ald elay false 47, 0, 0)) (e_L 47 (1, e_nof, 1, 0)))))))
set_option maxRecDepth 20000 in
set_option maxHeartbeats 4000000 in
theorem te_442_0_ok : ∀ pc, e_EOq eft cls elay eI n_442 pc (te_442_0 pc) :=
  (e_Tok2
  (e_Tok2
  (e_Tok2
  (e_Tok2
  (e_Lok (ld_iload_n_1 (x_dk dn_442_0_0_ok 0 rfl)))
  (e_Tok2
  (e_Lok (e_st (I := eI) (er_i2l (x_dk dn_442_0_0_ok 1 rfl)) (nx_un (fun _ => rfl))))
  (e_Lok (ps_lconst_0 (x_dk dn_442_0_0_ok 2 rfl)))))
  (e_Tok2
  (e_Lok (e_st (I := eI) (er_ldc2 (ix := 922) (z := 15) (v := 15) (x_dk dn_442_0_0_ok 3 rfl) (in_t13 (List.mem_of_getElem? (i := 228) rfl) rfl) (by decide)) (nx_push (Or.inl rfl))))
  (e_Tok2
  (e_Lok (lk_12_301 ho_442 (x_dk dn_442_0_0_ok 4 rfl)))
  (e_Lok (e_st (I := eI) (er_ifeq (off := 15) (tg := 24) (x_dk dn_442_0_0_ok 5 rfl) (by decide)) nx_if1)))))
  (e_Tok2
  (e_Tok2
  (e_Lok (ld_iload_n_2 (x_dk dn_442_0_0_ok 6 rfl)))
  (e_Tok2
  (e_Lok (e_st (I := eI) (er_i2l (x_dk dn_442_0_0_ok 7 rfl)) (nx_un (fun _ => rfl))))
  (e_Lok (ps_lconst_0 (x_dk dn_442_0_0_ok 8 rfl)))))
  (e_Tok2
  (e_Tok2
  (e_Lok (e_st (I := eI) (er_ldc2 (ix := 348) (z := 3) (v := 3) (x_dk dn_442_0_0_ok 9 rfl) (in_t11 (List.mem_of_getElem? (i := 71) rfl) rfl) (by decide)) (nx_push (Or.inl rfl))))
  (e_Lok (lk_12_301 ho_442 (x_dk dn_442_0_0_ok 10 rfl))))
  (e_Tok2
  (e_Lok (e_st (I := eI) (er_ifne (off := 5) (tg := 26) (x_dk dn_442_0_0_ok 11 rfl) (by decide)) nx_if1))
  (e_Lok (ps_iconst_m1 (x_dk dn_442_0_0_ok 12 rfl)))))))
  (e_Tok2
  (e_Tok2
  (e_Tok2
  (e_Lok (e_rt (I := eI) (k := 1) ⟨(x_dk dn_442_0_0_ok 13 rfl), rfl⟩))
  (e_Tok2
  (e_Lok (ld_aload_n_0 (x_dk dn_442_0_0_ok 14 rfl)))
  (e_Lok (lk_12_8g ho_442 (x_dk dn_442_0_0_ok 15 rfl)))))
  (e_Tok2
  (e_Tok2
  (e_Lok (ld_iload_n_1 (x_dk dn_442_0_0_ok 16 rfl)))
  (e_Lok (lk_12_298 ho_442 (x_dk dn_442_0_0_ok 17 rfl))))
  (e_Tok2
  (e_Lok (ld_iload_n_2 (x_dk dn_442_0_0_ok 18 rfl)))
  (e_Lok (ps_iconst_3 (x_dk dn_442_0_0_ok 19 rfl))))))
  (e_Tok2
  (e_Tok2
  (e_Lok (e_st (I := eI) (er_icmpge (off := 7) (tg := 43) (x_dk dn_442_0_0_ok 20 rfl) (by decide)) nx_if2))
  (e_Tok2
  (e_Lok (ld_iload_n_2 (x_dk dn_442_0_0_ok 21 rfl)))
  (e_Lok (e_st (I := eI) (er_goto (off := 5) (tg := 45) (x_dk dn_442_0_0_ok 22 rfl) (by decide)) nx_goto))))
  (e_Tok2
  (e_Tok2
  (e_Lok (ps_bipush_12 (x_dk dn_442_0_0_ok 23 rfl)))
  (e_Lok (sm_iadd (x_dk dn_442_0_0_ok 24 rfl))))
  (e_Tok2
  (e_Lok (sm_iaload (x_dk dn_442_0_1_ok 0 rfl)))
  (e_Lok (e_rt (I := eI) (k := 1) ⟨(x_dk dn_442_0_1_ok 1 rfl), rfl⟩)))))))
def te_442 : Nat → eE := te_442_0
theorem te_442_ok : ∀ pc, e_EOq eft cls elay eI n_442 pc (te_442 pc) := te_442_0_ok
theorem ho_443 : (xm_y n_443).cls = "RobotCellHouseModel" := rfl
def dn_443_0_0 : List (Nat × Instr × Nat) := [(0, .aload_n 0, 1), (1, .iload_n 1, 1), (2, .invokevirtual 305, 3), (5, .ifCond .eq 39, 3), (8, .iload_n 2, 1), (9, .i2l, 1), (10, .lconst 0, 1), (11, .aload_n 0, 1), (12, .getfield 204, 3), (15, .iload_n 1, 1), (16, .iaload, 1), (17, .iconst 1, 1), (18, .isub, 1), (19, .i2l, 1), (20, .invokestatic 301, 3), (23, .ifCond .eq 21, 3), (26, .aload_n 0, 1), (27, .getfield 8, 3), (30, .sipush 20932, 3), (33, .bipush 32, 2), (35, .iload_n 1, 1), (36, .imul, 1), (37, .iadd, 1), (38, .iload_n 2, 1), (39, .iadd, 1)]
set_option maxRecDepth 20000 in
theorem dn_443_0_0_ok : dn_443_0_0.all (fun q => decide (decode (xm_b n_443) q.1 = .ok (q.2.1, q.2.2))) = true := xa_g_ok (by decide +kernel)
def dn_443_0_1 : List (Nat × Instr × Nat) := [(40, .iaload, 1), (41, .goto 4, 3), (44, .iconst (-1), 1), (45, .ireturn, 1)]
set_option maxRecDepth 20000 in
theorem dn_443_0_1_ok : dn_443_0_1.all (fun q => decide (decode (xm_b n_443) q.1 = .ok (q.2.1, q.2.2))) = true := xa_g_ok (by decide +kernel)
def te_443_0 : Nat → eE := (e_T 19 (e_T 10 (e_T 2 (e_T 0 (e_L 0 (0, ei_load 0 2 1, 0, 0)) (e_T 1 (e_L 1 (0, ei_load 1 0 2, 0, 0)) (e_L 2 (2, e_nof, 270, 2)))) (e_T 8 (e_T 5 (e_L 5 (0, ei_if1 0 44 8, 0, 0)) (e_L 8 (0, ei_load 2 0 9, 0, 0))) (e_T 9 (e_L 9 (0, ei_un (fun x => (4, x)) 10, 0, 0)) (e_L 10 (0, ei_push (4, 0) 11, 0, 0))))) (e_T 15 (e_T 11 (e_L 11 (0, ei_load 0 2 12, 0, 0)) (e_T 12 (e_L 12 (0, ei_getf eft elay 12 76 15, 0, 0)) (e_L 15 (0, ei_load 1 0 16, 0, 0)))) (e_T 17 (e_T 16 (e_L 16 (0, ei_ald elay false 17, 0, 0)) (e_L 17 (0, ei_push (0, 1) 18, 0, 0))) (e_T 18 (e_L 18 (0, ei_bin eF_sub 19, 0, 0)) (e_L 19 (0, ei_un (fun x => (4, x)) 20, 0, 0)))))) (e_T 35 (e_T 26 (e_T 20 (e_L 20 (2, e_nof, 266, 3)) (e_T 23 (e_L 23 (0, ei_if1 0 44 26, 0, 0)) (e_L 26 (0, ei_load 0 2 27, 0, 0)))) (e_T 30 (e_T 27 (e_L 27 (0, ei_getf eft elay 12 0 30, 0, 0)) (e_L 30 (0, ei_push (0, 20932) 33, 0, 0))) (e_T 33 (e_L 33 (0, ei_push (0, 32) 35, 0, 0)) (e_L 35 (0, ei_load 1 0 36, 0, 0))))) (e_T 39 (e_T 37 (e_T 36 (e_L 36 (0, ei_bin eF_mul 37, 0, 0)) (e_L 37 (0, ei_bin eF_add 38, 0, 0))) (e_T 38 (e_L 38 (0, ei_load 2 0 39, 0, 0)) (e_L 39 (0, ei_bin eF_add 40, 0, 0)))) (e_T 41 (e_T 40 (e_L 40 (0, ei_ald elay false 41, 0, 0)) (e_L 41 (0, ei_goto 45, 0, 0))) (e_T 44 (e_L 44 (0, ei_push (0, (-1)) 45, 0, 0)) (e_L 45 (1, e_nof, 1, 0)))))))
set_option maxRecDepth 20000 in
set_option maxHeartbeats 4000000 in
theorem te_443_0_ok : ∀ pc, e_EOq eft cls elay eI n_443 pc (te_443_0 pc) :=
  (e_Tok2
  (e_Tok2
  (e_Tok2
  (e_Tok2
  (e_Lok (ld_aload_n_0 (x_dk dn_443_0_0_ok 0 rfl)))
  (e_Tok2
  (e_Lok (ld_iload_n_1 (x_dk dn_443_0_0_ok 1 rfl)))
  (e_Lok (lk_12_305 ho_443 (x_dk dn_443_0_0_ok 2 rfl)))))
  (e_Tok2
  (e_Tok2
  (e_Lok (e_st (I := eI) (er_ifeq (off := 39) (tg := 44) (x_dk dn_443_0_0_ok 3 rfl) (by decide)) nx_if1))
  (e_Lok (ld_iload_n_2 (x_dk dn_443_0_0_ok 4 rfl))))
  (e_Tok2
  (e_Lok (e_st (I := eI) (er_i2l (x_dk dn_443_0_0_ok 5 rfl)) (nx_un (fun _ => rfl))))
  (e_Lok (ps_lconst_0 (x_dk dn_443_0_0_ok 6 rfl))))))
  (e_Tok2
  (e_Tok2
  (e_Lok (ld_aload_n_0 (x_dk dn_443_0_0_ok 7 rfl)))
  (e_Tok2
  (e_Lok (lk_12_204g ho_443 (x_dk dn_443_0_0_ok 8 rfl)))
  (e_Lok (ld_iload_n_1 (x_dk dn_443_0_0_ok 9 rfl)))))
  (e_Tok2
  (e_Tok2
  (e_Lok (sm_iaload (x_dk dn_443_0_0_ok 10 rfl)))
  (e_Lok (ps_iconst_1 (x_dk dn_443_0_0_ok 11 rfl))))
  (e_Tok2
  (e_Lok (sm_isub (x_dk dn_443_0_0_ok 12 rfl)))
  (e_Lok (e_st (I := eI) (er_i2l (x_dk dn_443_0_0_ok 13 rfl)) (nx_un (fun _ => rfl))))))))
  (e_Tok2
  (e_Tok2
  (e_Tok2
  (e_Lok (lk_12_301 ho_443 (x_dk dn_443_0_0_ok 14 rfl)))
  (e_Tok2
  (e_Lok (e_st (I := eI) (er_ifeq (off := 21) (tg := 44) (x_dk dn_443_0_0_ok 15 rfl) (by decide)) nx_if1))
  (e_Lok (ld_aload_n_0 (x_dk dn_443_0_0_ok 16 rfl)))))
  (e_Tok2
  (e_Tok2
  (e_Lok (lk_12_8g ho_443 (x_dk dn_443_0_0_ok 17 rfl)))
  (e_Lok (ps_sipush_20932 (x_dk dn_443_0_0_ok 18 rfl))))
  (e_Tok2
  (e_Lok (ps_bipush_32 (x_dk dn_443_0_0_ok 19 rfl)))
  (e_Lok (ld_iload_n_1 (x_dk dn_443_0_0_ok 20 rfl))))))
  (e_Tok2
  (e_Tok2
  (e_Tok2
  (e_Lok (sm_imul (x_dk dn_443_0_0_ok 21 rfl)))
  (e_Lok (sm_iadd (x_dk dn_443_0_0_ok 22 rfl))))
  (e_Tok2
  (e_Lok (ld_iload_n_2 (x_dk dn_443_0_0_ok 23 rfl)))
  (e_Lok (sm_iadd (x_dk dn_443_0_0_ok 24 rfl)))))
  (e_Tok2
  (e_Tok2
  (e_Lok (sm_iaload (x_dk dn_443_0_1_ok 0 rfl)))
  (e_Lok (e_st (I := eI) (er_goto (off := 4) (tg := 45) (x_dk dn_443_0_1_ok 1 rfl) (by decide)) nx_goto)))
  (e_Tok2
  (e_Lok (ps_iconst_m1 (x_dk dn_443_0_1_ok 2 rfl)))
  (e_Lok (e_rt (I := eI) (k := 1) ⟨(x_dk dn_443_0_1_ok 3 rfl), rfl⟩)))))))
def te_443 : Nat → eE := te_443_0
theorem te_443_ok : ∀ pc, e_EOq eft cls elay eI n_443 pc (te_443 pc) := te_443_0_ok
theorem ho_444 : (xm_y n_444).cls = "RobotCellHouseModel" := rfl
def dn_444_0_0 : List (Nat × Instr × Nat) := [(0, .aload_n 0, 1), (1, .iload_n 1, 1), (2, .invokevirtual 876, 3), (5, .ifCond .eq 15, 3), (8, .iload_n 2, 1), (9, .i2l, 1), (10, .lconst 0, 1), (11, .ldc2_w 750, 3), (14, .invokestatic 301, 3), (17, .ifCond .ne 5, 3), (20, .iconst (-1), 1), (21, .ireturn, 1), (22, .iload_n 2, 1), (23, .ifCond .ne 11, 3), (26, .aload_n 0, 1), (27, .iload_n 1, 1), (28, .invokevirtual 464, 3), (31, .goto 31, 3), (34, .iload_n 2, 1), (35, .iconst 1, 1), (36, .if_icmp .ne 16, 3), (39, .aload_n 0, 1), (40, .getfield 8, 3), (43, .sipush 160, 3), (46, .iload_n 1, 1)]
set_option maxRecDepth 20000 in
theorem dn_444_0_0_ok : dn_444_0_0.all (fun q => decide (decode (xm_b n_444) q.1 = .ok (q.2.1, q.2.2))) = true := xa_g_ok (by decide +kernel)
def dn_444_0_1 : List (Nat × Instr × Nat) := [(47, .iadd, 1), (48, .iaload, 1), (49, .goto 13, 3), (52, .aload_n 0, 1), (53, .getfield 8, 3), (56, .sipush 352, 3), (59, .iload_n 1, 1), (60, .iadd, 1), (61, .iaload, 1), (62, .ireturn, 1)]
set_option maxRecDepth 20000 in
theorem dn_444_0_1_ok : dn_444_0_1.all (fun q => decide (decode (xm_b n_444) q.1 = .ok (q.2.1, q.2.2))) = true := xa_g_ok (by decide +kernel)
def te_444_0 : Nat → eE := (e_T 28 (e_T 11 (e_T 5 (e_T 1 (e_T 0 (e_L 0 (0, ei_load 0 2 1, 0, 0)) (e_L 1 (0, ei_load 1 0 2, 0, 0))) (e_T 2 (e_L 2 (2, e_nof, 424, 2)) (e_L 5 (0, ei_if1 0 20 8, 0, 0)))) (e_T 9 (e_T 8 (e_L 8 (0, ei_load 2 0 9, 0, 0)) (e_L 9 (0, ei_un (fun x => (4, x)) 10, 0, 0))) (e_T 10 (e_L 10 (0, ei_push (4, 0) 11, 0, 0)) (e_L 11 (0, ei_push (4, 2) 14, 0, 0))))) (e_T 21 (e_T 17 (e_T 14 (e_L 14 (2, e_nof, 266, 3)) (e_L 17 (0, ei_if1 1 22 20, 0, 0))) (e_T 20 (e_L 20 (0, ei_push (0, (-1)) 21, 0, 0)) (e_L 21 (1, e_nof, 1, 0)))) (e_T 23 (e_T 22 (e_L 22 (0, ei_load 2 0 23, 0, 0)) (e_L 23 (0, ei_if1 1 34 26, 0, 0))) (e_T 26 (e_L 26 (0, ei_load 0 2 27, 0, 0)) (e_T 27 (e_L 27 (0, ei_load 1 0 28, 0, 0)) (e_L 28 (2, e_nof, 320, 2))))))) (e_T 47 (e_T 36 (e_T 34 (e_T 31 (e_L 31 (0, ei_goto 62, 0, 0)) (e_L 34 (0, ei_load 2 0 35, 0, 0))) (e_T 35 (e_L 35 (0, ei_push (0, 1) 36, 0, 0)) (e_L 36 (0, ei_if2 1 52 39, 0, 0)))) (e_T 40 (e_T 39 (e_L 39 (0, ei_load 0 2 40, 0, 0)) (e_L 40 (0, ei_getf eft elay 12 0 43, 0, 0))) (e_T 43 (e_L 43 (0, ei_push (0, 160) 46, 0, 0)) (e_T 46 (e_L 46 (0, ei_load 1 0 47, 0, 0)) (e_L 47 (0, ei_bin eF_add 48, 0, 0)))))) (e_T 53 (e_T 49 (e_T 48 (e_L 48 (0, ei_ald elay false 49, 0, 0)) (e_L 49 (0, ei_goto 62, 0, 0))) (e_T 52 (e_L 52 (0, ei_load 0 2 53, 0, 0)) (e_L 53 (0, ei_getf eft elay 12 0 56, 0, 0)))) (e_T 59 (e_T 56 (e_L 56 (0, ei_push (0, 352) 59, 0, 0)) (e_L 59 (0, ei_load 1 0 60, 0, 0))) (e_T 60 (e_L 60 (0, ei_bin eF_add 61, 0, 0)) (e_T 61 (e_L 61 (0, ei_ald elay false 62, 0, 0)) (e_L 62 (1, e_nof, 1, 0))))))))
set_option maxRecDepth 20000 in
set_option maxHeartbeats 4000000 in
theorem te_444_0_ok : ∀ pc, e_EOq eft cls elay eI n_444 pc (te_444_0 pc) :=
  (e_Tok2
  (e_Tok2
  (e_Tok2
  (e_Tok2
  (e_Tok2
  (e_Lok (ld_aload_n_0 (x_dk dn_444_0_0_ok 0 rfl)))
  (e_Lok (ld_iload_n_1 (x_dk dn_444_0_0_ok 1 rfl))))
  (e_Tok2
  (e_Lok (lk_12_876 ho_444 (x_dk dn_444_0_0_ok 2 rfl)))
  (e_Lok (e_st (I := eI) (er_ifeq (off := 15) (tg := 20) (x_dk dn_444_0_0_ok 3 rfl) (by decide)) nx_if1))))
  (e_Tok2
  (e_Tok2
  (e_Lok (ld_iload_n_2 (x_dk dn_444_0_0_ok 4 rfl)))
  (e_Lok (e_st (I := eI) (er_i2l (x_dk dn_444_0_0_ok 5 rfl)) (nx_un (fun _ => rfl)))))
  (e_Tok2
  (e_Lok (ps_lconst_0 (x_dk dn_444_0_0_ok 6 rfl)))
  (e_Lok (e_st (I := eI) (er_ldc2 (ix := 750) (z := 2) (v := 2) (x_dk dn_444_0_0_ok 7 rfl) (in_t12 (List.mem_of_getElem? (i := 185) rfl) rfl) (by decide)) (nx_push (Or.inl rfl)))))))
  (e_Tok2
  (e_Tok2
  (e_Tok2
  (e_Lok (lk_12_301 ho_444 (x_dk dn_444_0_0_ok 8 rfl)))
  (e_Lok (e_st (I := eI) (er_ifne (off := 5) (tg := 22) (x_dk dn_444_0_0_ok 9 rfl) (by decide)) nx_if1)))
  (e_Tok2
  (e_Lok (ps_iconst_m1 (x_dk dn_444_0_0_ok 10 rfl)))
  (e_Lok (e_rt (I := eI) (k := 1) ⟨(x_dk dn_444_0_0_ok 11 rfl), rfl⟩))))
  (e_Tok2
  (e_Tok2
  (e_Lok (ld_iload_n_2 (x_dk dn_444_0_0_ok 12 rfl)))
  (e_Lok (e_st (I := eI) (er_ifne (off := 11) (tg := 34) (x_dk dn_444_0_0_ok 13 rfl) (by decide)) nx_if1)))
  (e_Tok2
  (e_Lok (ld_aload_n_0 (x_dk dn_444_0_0_ok 14 rfl)))
  (e_Tok2
  (e_Lok (ld_iload_n_1 (x_dk dn_444_0_0_ok 15 rfl)))
  (e_Lok (lk_12_464 ho_444 (x_dk dn_444_0_0_ok 16 rfl))))))))
  (e_Tok2
  (e_Tok2
  (e_Tok2
  (e_Tok2
  (e_Lok (e_st (I := eI) (er_goto (off := 31) (tg := 62) (x_dk dn_444_0_0_ok 17 rfl) (by decide)) nx_goto))
  (e_Lok (ld_iload_n_2 (x_dk dn_444_0_0_ok 18 rfl))))
  (e_Tok2
  (e_Lok (ps_iconst_1 (x_dk dn_444_0_0_ok 19 rfl)))
  (e_Lok (e_st (I := eI) (er_icmpne (off := 16) (tg := 52) (x_dk dn_444_0_0_ok 20 rfl) (by decide)) nx_if2))))
  (e_Tok2
  (e_Tok2
  (e_Lok (ld_aload_n_0 (x_dk dn_444_0_0_ok 21 rfl)))
  (e_Lok (lk_12_8g ho_444 (x_dk dn_444_0_0_ok 22 rfl))))
  (e_Tok2
  (e_Lok (ps_sipush_160 (x_dk dn_444_0_0_ok 23 rfl)))
  (e_Tok2
  (e_Lok (ld_iload_n_1 (x_dk dn_444_0_0_ok 24 rfl)))
  (e_Lok (sm_iadd (x_dk dn_444_0_1_ok 0 rfl)))))))
  (e_Tok2
  (e_Tok2
  (e_Tok2
  (e_Lok (sm_iaload (x_dk dn_444_0_1_ok 1 rfl)))
  (e_Lok (e_st (I := eI) (er_goto (off := 13) (tg := 62) (x_dk dn_444_0_1_ok 2 rfl) (by decide)) nx_goto)))
  (e_Tok2
  (e_Lok (ld_aload_n_0 (x_dk dn_444_0_1_ok 3 rfl)))
  (e_Lok (lk_12_8g ho_444 (x_dk dn_444_0_1_ok 4 rfl)))))
  (e_Tok2
  (e_Tok2
  (e_Lok (ps_sipush_352 (x_dk dn_444_0_1_ok 5 rfl)))
  (e_Lok (ld_iload_n_1 (x_dk dn_444_0_1_ok 6 rfl))))
  (e_Tok2
  (e_Lok (sm_iadd (x_dk dn_444_0_1_ok 7 rfl)))
  (e_Tok2
  (e_Lok (sm_iaload (x_dk dn_444_0_1_ok 8 rfl)))
  (e_Lok (e_rt (I := eI) (k := 1) ⟨(x_dk dn_444_0_1_ok 9 rfl), rfl⟩))))))))
def te_444 : Nat → eE := te_444_0
theorem te_444_ok : ∀ pc, e_EOq eft cls elay eI n_444 pc (te_444 pc) := te_444_0_ok
theorem ho_445 : (xm_y n_445).cls = "RobotCellHouseModel" := rfl
def dn_445_0_0 : List (Nat × Instr × Nat) := [(0, .iload_n 1, 1), (1, .i2l, 1), (2, .lconst 0, 1), (3, .ldc2_w 367, 3), (6, .invokestatic 301, 3), (9, .ifCond .eq 16, 3), (12, .aload_n 0, 1), (13, .getfield 8, 3), (16, .sipush 20868, 3), (19, .iload_n 1, 1), (20, .iadd, 1), (21, .iaload, 1), (22, .goto 4, 3), (25, .iconst (-1), 1), (26, .ireturn, 1)]
set_option maxRecDepth 20000 in
theorem dn_445_0_0_ok : dn_445_0_0.all (fun q => decide (decode (xm_b n_445) q.1 = .ok (q.2.1, q.2.2))) = true := xa_g_ok (by decide +kernel)
def te_445_0 : Nat → eE := (e_T 12 (e_T 2 (e_T 0 (e_L 0 (0, ei_load 1 0 1, 0, 0)) (e_T 1 (e_L 1 (0, ei_un (fun x => (4, x)) 2, 0, 0)) (e_L 2 (0, ei_push (4, 0) 3, 0, 0)))) (e_T 6 (e_T 3 (e_L 3 (0, ei_push (4, 7) 6, 0, 0)) (e_L 6 (2, e_nof, 266, 3))) (e_T 9 (e_L 9 (0, ei_if1 0 25 12, 0, 0)) (e_L 12 (0, ei_load 0 2 13, 0, 0))))) (e_T 20 (e_T 16 (e_T 13 (e_L 13 (0, ei_getf eft elay 12 0 16, 0, 0)) (e_L 16 (0, ei_push (0, 20868) 19, 0, 0))) (e_T 19 (e_L 19 (0, ei_load 1 0 20, 0, 0)) (e_L 20 (0, ei_bin eF_add 21, 0, 0)))) (e_T 22 (e_T 21 (e_L 21 (0, ei_ald elay false 22, 0, 0)) (e_L 22 (0, ei_goto 26, 0, 0))) (e_T 25 (e_L 25 (0, ei_push (0, (-1)) 26, 0, 0)) (e_L 26 (1, e_nof, 1, 0))))))
set_option maxRecDepth 20000 in
set_option maxHeartbeats 4000000 in
theorem te_445_0_ok : ∀ pc, e_EOq eft cls elay eI n_445 pc (te_445_0 pc) :=
  (e_Tok2
  (e_Tok2
  (e_Tok2
  (e_Lok (ld_iload_n_1 (x_dk dn_445_0_0_ok 0 rfl)))
  (e_Tok2
  (e_Lok (e_st (I := eI) (er_i2l (x_dk dn_445_0_0_ok 1 rfl)) (nx_un (fun _ => rfl))))
  (e_Lok (ps_lconst_0 (x_dk dn_445_0_0_ok 2 rfl)))))
  (e_Tok2
  (e_Tok2
  (e_Lok (e_st (I := eI) (er_ldc2 (ix := 367) (z := 7) (v := 7) (x_dk dn_445_0_0_ok 3 rfl) (in_t11 (List.mem_of_getElem? (i := 120) rfl) rfl) (by decide)) (nx_push (Or.inl rfl))))
  (e_Lok (lk_12_301 ho_445 (x_dk dn_445_0_0_ok 4 rfl))))
  (e_Tok2
  (e_Lok (e_st (I := eI) (er_ifeq (off := 16) (tg := 25) (x_dk dn_445_0_0_ok 5 rfl) (by decide)) nx_if1))
  (e_Lok (ld_aload_n_0 (x_dk dn_445_0_0_ok 6 rfl))))))
  (e_Tok2
  (e_Tok2
  (e_Tok2
  (e_Lok (lk_12_8g ho_445 (x_dk dn_445_0_0_ok 7 rfl)))
  (e_Lok (ps_sipush_20868 (x_dk dn_445_0_0_ok 8 rfl))))
  (e_Tok2
  (e_Lok (ld_iload_n_1 (x_dk dn_445_0_0_ok 9 rfl)))
  (e_Lok (sm_iadd (x_dk dn_445_0_0_ok 10 rfl)))))
  (e_Tok2
  (e_Tok2
  (e_Lok (sm_iaload (x_dk dn_445_0_0_ok 11 rfl)))
  (e_Lok (e_st (I := eI) (er_goto (off := 4) (tg := 26) (x_dk dn_445_0_0_ok 12 rfl) (by decide)) nx_goto)))
  (e_Tok2
  (e_Lok (ps_iconst_m1 (x_dk dn_445_0_0_ok 13 rfl)))
  (e_Lok (e_rt (I := eI) (k := 1) ⟨(x_dk dn_445_0_0_ok 14 rfl), rfl⟩))))))
def te_445 : Nat → eE := te_445_0
theorem te_445_ok : ∀ pc, e_EOq eft cls elay eI n_445 pc (te_445 pc) := te_445_0_ok
theorem ho_446 : (xm_y n_446).cls = "RobotCellHouseModel" := rfl
def dn_446_0_0 : List (Nat × Instr × Nat) := [(0, .iload_n 1, 1), (1, .i2l, 1), (2, .lconst 0, 1), (3, .aload_n 0, 1), (4, .getfield 279, 3), (7, .iconst 1, 1), (8, .isub, 1), (9, .i2l, 1), (10, .invokestatic 301, 3), (13, .ifCond .eq 15, 3), (16, .iload_n 2, 1), (17, .i2l, 1), (18, .lconst 0, 1), (19, .ldc2_w 348, 3), (22, .invokestatic 301, 3), (25, .ifCond .ne 5, 3), (28, .iconst (-1), 1), (29, .ireturn, 1), (30, .iload_n 2, 1), (31, .ifCond .eq 8, 3), (34, .iload_n 2, 1), (35, .iconst 3, 1), (36, .if_icmp .ne 17, 3), (39, .aload_n 0, 1), (40, .getfield 8, 3)]
set_option maxRecDepth 20000 in
theorem dn_446_0_0_ok : dn_446_0_0.all (fun q => decide (decode (xm_b n_446) q.1 = .ok (q.2.1, q.2.2))) = true := xa_g_ok (by decide +kernel)
def dn_446_0_1 : List (Nat × Instr × Nat) := [(43, .iload_n 1, 1), (44, .invokestatic 774, 3), (47, .iload_n 2, 1), (48, .iadd, 1), (49, .iaload, 1), (50, .goto 11, 3), (53, .aload_n 0, 1), (54, .iload_n 1, 1), (55, .iload_n 2, 1), (56, .iconst 1, 1), (57, .isub, 1), (58, .invokevirtual 777, 3), (61, .ireturn, 1)]
set_option maxRecDepth 20000 in
theorem dn_446_0_1_ok : dn_446_0_1.all (fun q => decide (decode (xm_b n_446) q.1 = .ok (q.2.1, q.2.2))) = true := xa_g_ok (by decide +kernel)
def te_446_0 : Nat → eE := (e_T 30 (e_T 10 (e_T 3 (e_T 1 (e_T 0 (e_L 0 (0, ei_load 1 0 1, 0, 0)) (e_L 1 (0, ei_un (fun x => (4, x)) 2, 0, 0))) (e_T 2 (e_L 2 (0, ei_push (4, 0) 3, 0, 0)) (e_L 3 (0, ei_load 0 2 4, 0, 0)))) (e_T 7 (e_T 4 (e_L 4 (0, ei_getf eft elay 12 40 7, 0, 0)) (e_L 7 (0, ei_push (0, 1) 8, 0, 0))) (e_T 8 (e_L 8 (0, ei_bin eF_sub 9, 0, 0)) (e_T 9 (e_L 9 (0, ei_un (fun x => (4, x)) 10, 0, 0)) (e_L 10 (2, e_nof, 266, 3)))))) (e_T 19 (e_T 16 (e_T 13 (e_L 13 (0, ei_if1 0 28 16, 0, 0)) (e_L 16 (0, ei_load 2 0 17, 0, 0))) (e_T 17 (e_L 17 (0, ei_un (fun x => (4, x)) 18, 0, 0)) (e_T 18 (e_L 18 (0, ei_push (4, 0) 19, 0, 0)) (e_L 19 (0, ei_push (4, 3) 22, 0, 0))))) (e_T 25 (e_T 22 (e_L 22 (2, e_nof, 266, 3)) (e_L 25 (0, ei_if1 1 30 28, 0, 0))) (e_T 28 (e_L 28 (0, ei_push (0, (-1)) 29, 0, 0)) (e_T 29 (e_L 29 (1, e_nof, 1, 0)) (e_L 30 (0, ei_load 2 0 31, 0, 0))))))) (e_T 47 (e_T 36 (e_T 34 (e_T 31 (e_L 31 (0, ei_if1 0 39 34, 0, 0)) (e_L 34 (0, ei_load 2 0 35, 0, 0))) (e_T 35 (e_L 35 (0, ei_push (0, 3) 36, 0, 0)) (e_L 36 (0, ei_if2 1 53 39, 0, 0)))) (e_T 40 (e_T 39 (e_L 39 (0, ei_load 0 2 40, 0, 0)) (e_L 40 (0, ei_getf eft elay 12 0 43, 0, 0))) (e_T 43 (e_L 43 (0, ei_load 1 0 44, 0, 0)) (e_T 44 (e_L 44 (2, e_nof, 392, 1)) (e_L 47 (0, ei_load 2 0 48, 0, 0)))))) (e_T 54 (e_T 49 (e_T 48 (e_L 48 (0, ei_bin eF_add 49, 0, 0)) (e_L 49 (0, ei_ald elay false 50, 0, 0))) (e_T 50 (e_L 50 (0, ei_goto 61, 0, 0)) (e_T 53 (e_L 53 (0, ei_load 0 2 54, 0, 0)) (e_L 54 (0, ei_load 1 0 55, 0, 0))))) (e_T 56 (e_T 55 (e_L 55 (0, ei_load 2 0 56, 0, 0)) (e_L 56 (0, ei_push (0, 1) 57, 0, 0))) (e_T 57 (e_L 57 (0, ei_bin eF_sub 58, 0, 0)) (e_T 58 (e_L 58 (2, e_nof, 395, 3)) (e_L 61 (1, e_nof, 1, 0))))))))
set_option maxRecDepth 20000 in
set_option maxHeartbeats 4000000 in
theorem te_446_0_ok : ∀ pc, e_EOq eft cls elay eI n_446 pc (te_446_0 pc) :=
  (e_Tok2
  (e_Tok2
  (e_Tok2
  (e_Tok2
  (e_Tok2
  (e_Lok (ld_iload_n_1 (x_dk dn_446_0_0_ok 0 rfl)))
  (e_Lok (e_st (I := eI) (er_i2l (x_dk dn_446_0_0_ok 1 rfl)) (nx_un (fun _ => rfl)))))
  (e_Tok2
  (e_Lok (ps_lconst_0 (x_dk dn_446_0_0_ok 2 rfl)))
  (e_Lok (ld_aload_n_0 (x_dk dn_446_0_0_ok 3 rfl)))))
  (e_Tok2
  (e_Tok2
  (e_Lok (lk_12_279g ho_446 (x_dk dn_446_0_0_ok 4 rfl)))
  (e_Lok (ps_iconst_1 (x_dk dn_446_0_0_ok 5 rfl))))
  (e_Tok2
  (e_Lok (sm_isub (x_dk dn_446_0_0_ok 6 rfl)))
  (e_Tok2
  (e_Lok (e_st (I := eI) (er_i2l (x_dk dn_446_0_0_ok 7 rfl)) (nx_un (fun _ => rfl))))
  (e_Lok (lk_12_301 ho_446 (x_dk dn_446_0_0_ok 8 rfl)))))))
  (e_Tok2
  (e_Tok2
  (e_Tok2
  (e_Lok (e_st (I := eI) (er_ifeq (off := 15) (tg := 28) (x_dk dn_446_0_0_ok 9 rfl) (by decide)) nx_if1))
  (e_Lok (ld_iload_n_2 (x_dk dn_446_0_0_ok 10 rfl))))
  (e_Tok2
  (e_Lok (e_st (I := eI) (er_i2l (x_dk dn_446_0_0_ok 11 rfl)) (nx_un (fun _ => rfl))))
  (e_Tok2
  (e_Lok (ps_lconst_0 (x_dk dn_446_0_0_ok 12 rfl)))
  (e_Lok (e_st (I := eI) (er_ldc2 (ix := 348) (z := 3) (v := 3) (x_dk dn_446_0_0_ok 13 rfl) (in_t11 (List.mem_of_getElem? (i := 71) rfl) rfl) (by decide)) (nx_push (Or.inl rfl)))))))
  (e_Tok2
  (e_Tok2
  (e_Lok (lk_12_301 ho_446 (x_dk dn_446_0_0_ok 14 rfl)))
  (e_Lok (e_st (I := eI) (er_ifne (off := 5) (tg := 30) (x_dk dn_446_0_0_ok 15 rfl) (by decide)) nx_if1)))
  (e_Tok2
  (e_Lok (ps_iconst_m1 (x_dk dn_446_0_0_ok 16 rfl)))
  (e_Tok2
  (e_Lok (e_rt (I := eI) (k := 1) ⟨(x_dk dn_446_0_0_ok 17 rfl), rfl⟩))
  (e_Lok (ld_iload_n_2 (x_dk dn_446_0_0_ok 18 rfl))))))))
  (e_Tok2
  (e_Tok2
  (e_Tok2
  (e_Tok2
  (e_Lok (e_st (I := eI) (er_ifeq (off := 8) (tg := 39) (x_dk dn_446_0_0_ok 19 rfl) (by decide)) nx_if1))
  (e_Lok (ld_iload_n_2 (x_dk dn_446_0_0_ok 20 rfl))))
  (e_Tok2
  (e_Lok (ps_iconst_3 (x_dk dn_446_0_0_ok 21 rfl)))
  (e_Lok (e_st (I := eI) (er_icmpne (off := 17) (tg := 53) (x_dk dn_446_0_0_ok 22 rfl) (by decide)) nx_if2))))
  (e_Tok2
  (e_Tok2
  (e_Lok (ld_aload_n_0 (x_dk dn_446_0_0_ok 23 rfl)))
  (e_Lok (lk_12_8g ho_446 (x_dk dn_446_0_0_ok 24 rfl))))
  (e_Tok2
  (e_Lok (ld_iload_n_1 (x_dk dn_446_0_1_ok 0 rfl)))
  (e_Tok2
  (e_Lok (lk_12_774 ho_446 (x_dk dn_446_0_1_ok 1 rfl)))
  (e_Lok (ld_iload_n_2 (x_dk dn_446_0_1_ok 2 rfl)))))))
  (e_Tok2
  (e_Tok2
  (e_Tok2
  (e_Lok (sm_iadd (x_dk dn_446_0_1_ok 3 rfl)))
  (e_Lok (sm_iaload (x_dk dn_446_0_1_ok 4 rfl))))
  (e_Tok2
  (e_Lok (e_st (I := eI) (er_goto (off := 11) (tg := 61) (x_dk dn_446_0_1_ok 5 rfl) (by decide)) nx_goto))
  (e_Tok2
  (e_Lok (ld_aload_n_0 (x_dk dn_446_0_1_ok 6 rfl)))
  (e_Lok (ld_iload_n_1 (x_dk dn_446_0_1_ok 7 rfl))))))
  (e_Tok2
  (e_Tok2
  (e_Lok (ld_iload_n_2 (x_dk dn_446_0_1_ok 8 rfl)))
  (e_Lok (ps_iconst_1 (x_dk dn_446_0_1_ok 9 rfl))))
  (e_Tok2
  (e_Lok (sm_isub (x_dk dn_446_0_1_ok 10 rfl)))
  (e_Tok2
  (e_Lok (lk_12_777 ho_446 (x_dk dn_446_0_1_ok 11 rfl)))
  (e_Lok (e_rt (I := eI) (k := 1) ⟨(x_dk dn_446_0_1_ok 12 rfl), rfl⟩))))))))
def te_446 : Nat → eE := te_446_0
theorem te_446_ok : ∀ pc, e_EOq eft cls elay eI n_446 pc (te_446 pc) := te_446_0_ok
theorem ho_447 : (xm_y n_447).cls = "RobotCellHouseModel" := rfl
def dn_447_0_0 : List (Nat × Instr × Nat) := [(0, .iload_n 1, 1), (1, .i2l, 1), (2, .lconst 0, 1), (3, .iconst 3, 1), (4, .aload_n 0, 1), (5, .getfield 285, 3), (8, .iadd, 1), (9, .i2l, 1), (10, .invokestatic 301, 3), (13, .ifCond .ne 5, 3), (16, .iconst (-1), 1), (17, .ireturn, 1), (18, .iload_n 1, 1), (19, .iconst 3, 1), (20, .if_icmp .le 43, 3), (23, .aload_n 0, 1), (24, .getfield 8, 3), (27, .sipush 20836, 3), (30, .iconst 4, 1), (31, .iload_n 1, 1), (32, .iconst 4, 1), (33, .isub, 1), (34, .imul, 1), (35, .iadd, 1), (36, .iconst 3, 1)]
set_option maxRecDepth 20000 in
theorem dn_447_0_0_ok : dn_447_0_0.all (fun q => decide (decode (xm_b n_447) q.1 = .ok (q.2.1, q.2.2))) = true := xa_g_ok (by decide +kernel)
def dn_447_0_1 : List (Nat × Instr × Nat) := [(37, .iadd, 1), (38, .iaload, 1), (39, .iconst 1, 1), (40, .if_icmp .ne 7, 3), (43, .iconst 2, 1), (44, .goto 18, 3), (47, .aload_n 0, 1), (48, .iload_n 1, 1), (49, .iconst 4, 1), (50, .isub, 1), (51, .invokevirtual 780, 3), (54, .ifCond .eq 7, 3), (57, .iconst 1, 1), (58, .goto 4, 3), (61, .iconst 0, 1), (62, .ireturn, 1), (63, .aload_n 0, 1), (64, .getfield 8, 3), (67, .iload_n 1, 1), (68, .ifCond .ne 7, 3), (71, .iconst 1, 1), (72, .goto 22, 3), (75, .iload_n 1, 1), (76, .iconst 1, 1), (77, .if_icmp .ne 7, 3)]
set_option maxRecDepth 20000 in
theorem dn_447_0_1_ok : dn_447_0_1.all (fun q => decide (decode (xm_b n_447) q.1 = .ok (q.2.1, q.2.2))) = true := xa_g_ok (by decide +kernel)
def dn_447_0_2 : List (Nat × Instr × Nat) := [(80, .iconst 2, 1), (81, .goto 13, 3), (84, .iload_n 1, 1), (85, .iconst 2, 1), (86, .if_icmp .ne 7, 3), (89, .iconst 3, 1), (90, .goto 4, 3), (93, .iconst 4, 1), (94, .iaload, 1), (95, .ireturn, 1)]
set_option maxRecDepth 20000 in
theorem dn_447_0_2_ok : dn_447_0_2.all (fun q => decide (decode (xm_b n_447) q.1 = .ok (q.2.1, q.2.2))) = true := xa_g_ok (by decide +kernel)
def te_447_0 : Nat → eE := (e_T 20 (e_T 8 (e_T 2 (e_T 0 (e_L 0 (0, ei_load 1 0 1, 0, 0)) (e_T 1 (e_L 1 (0, ei_un (fun x => (4, x)) 2, 0, 0)) (e_L 2 (0, ei_push (4, 0) 3, 0, 0)))) (e_T 4 (e_T 3 (e_L 3 (0, ei_push (0, 3) 4, 0, 0)) (e_L 4 (0, ei_load 0 2 5, 0, 0))) (e_T 5 (e_L 5 (0, ei_getf eft elay 12 49 8, 0, 0)) (e_L 8 (0, ei_bin eF_add 9, 0, 0))))) (e_T 16 (e_T 10 (e_T 9 (e_L 9 (0, ei_un (fun x => (4, x)) 10, 0, 0)) (e_L 10 (2, e_nof, 266, 3))) (e_T 13 (e_L 13 (0, ei_if1 1 18 16, 0, 0)) (e_L 16 (0, ei_push (0, (-1)) 17, 0, 0)))) (e_T 18 (e_T 17 (e_L 17 (1, e_nof, 1, 0)) (e_L 18 (0, ei_load 1 0 19, 0, 0))) (e_T 19 (e_L 19 (0, ei_push (0, 3) 20, 0, 0)) (e_L 20 (0, ei_if2 5 63 23, 0, 0)))))) (e_T 33 (e_T 27 (e_T 23 (e_L 23 (0, ei_load 0 2 24, 0, 0)) (e_T 24 (e_L 24 (0, ei_getf eft elay 12 0 27, 0, 0)) (e_L 27 (0, ei_push (0, 20836) 30, 0, 0)))) (e_T 31 (e_T 30 (e_L 30 (0, ei_push (0, 4) 31, 0, 0)) (e_L 31 (0, ei_load 1 0 32, 0, 0))) (e_T 32 (e_L 32 (0, ei_push (0, 4) 33, 0, 0)) (e_L 33 (0, ei_bin eF_sub 34, 0, 0))))) (e_T 37 (e_T 35 (e_T 34 (e_L 34 (0, ei_bin eF_mul 35, 0, 0)) (e_L 35 (0, ei_bin eF_add 36, 0, 0))) (e_T 36 (e_L 36 (0, ei_push (0, 3) 37, 0, 0)) (e_L 37 (0, ei_bin eF_add 38, 0, 0)))) (e_T 39 (e_T 38 (e_L 38 (0, ei_ald elay false 39, 0, 0)) (e_L 39 (0, ei_push (0, 1) 40, 0, 0))) (e_T 40 (e_L 40 (0, ei_if2 1 47 43, 0, 0)) (e_L 43 (0, ei_push (0, 2) 44, 0, 0)))))))
set_option maxRecDepth 20000 in
set_option maxHeartbeats 4000000 in
theorem te_447_0_ok : ∀ pc, e_EOq eft cls elay eI n_447 pc (te_447_0 pc) :=
  (e_Tok2
  (e_Tok2
  (e_Tok2
  (e_Tok2
  (e_Lok (ld_iload_n_1 (x_dk dn_447_0_0_ok 0 rfl)))
  (e_Tok2
  (e_Lok (e_st (I := eI) (er_i2l (x_dk dn_447_0_0_ok 1 rfl)) (nx_un (fun _ => rfl))))
  (e_Lok (ps_lconst_0 (x_dk dn_447_0_0_ok 2 rfl)))))
  (e_Tok2
  (e_Tok2
  (e_Lok (ps_iconst_3 (x_dk dn_447_0_0_ok 3 rfl)))
  (e_Lok (ld_aload_n_0 (x_dk dn_447_0_0_ok 4 rfl))))
  (e_Tok2
  (e_Lok (lk_12_285g ho_447 (x_dk dn_447_0_0_ok 5 rfl)))
  (e_Lok (sm_iadd (x_dk dn_447_0_0_ok 6 rfl))))))
  (e_Tok2
  (e_Tok2
  (e_Tok2
  (e_Lok (e_st (I := eI) (er_i2l (x_dk dn_447_0_0_ok 7 rfl)) (nx_un (fun _ => rfl))))
  (e_Lok (lk_12_301 ho_447 (x_dk dn_447_0_0_ok 8 rfl))))
  (e_Tok2
  (e_Lok (e_st (I := eI) (er_ifne (off := 5) (tg := 18) (x_dk dn_447_0_0_ok 9 rfl) (by decide)) nx_if1))
  (e_Lok (ps_iconst_m1 (x_dk dn_447_0_0_ok 10 rfl)))))
  (e_Tok2
  (e_Tok2
  (e_Lok (e_rt (I := eI) (k := 1) ⟨(x_dk dn_447_0_0_ok 11 rfl), rfl⟩))
  (e_Lok (ld_iload_n_1 (x_dk dn_447_0_0_ok 12 rfl))))
  (e_Tok2
  (e_Lok (ps_iconst_3 (x_dk dn_447_0_0_ok 13 rfl)))
  (e_Lok (e_st (I := eI) (er_icmple (off := 43) (tg := 63) (x_dk dn_447_0_0_ok 14 rfl) (by decide)) nx_if2))))))
  (e_Tok2
  (e_Tok2
  (e_Tok2
  (e_Lok (ld_aload_n_0 (x_dk dn_447_0_0_ok 15 rfl)))
  (e_Tok2
  (e_Lok (lk_12_8g ho_447 (x_dk dn_447_0_0_ok 16 rfl)))
  (e_Lok (ps_sipush_20836 (x_dk dn_447_0_0_ok 17 rfl)))))
  (e_Tok2
  (e_Tok2
  (e_Lok (ps_iconst_4 (x_dk dn_447_0_0_ok 18 rfl)))
  (e_Lok (ld_iload_n_1 (x_dk dn_447_0_0_ok 19 rfl))))
  (e_Tok2
  (e_Lok (ps_iconst_4 (x_dk dn_447_0_0_ok 20 rfl)))
  (e_Lok (sm_isub (x_dk dn_447_0_0_ok 21 rfl))))))
  (e_Tok2
  (e_Tok2
  (e_Tok2
  (e_Lok (sm_imul (x_dk dn_447_0_0_ok 22 rfl)))
  (e_Lok (sm_iadd (x_dk dn_447_0_0_ok 23 rfl))))
  (e_Tok2
  (e_Lok (ps_iconst_3 (x_dk dn_447_0_0_ok 24 rfl)))
  (e_Lok (sm_iadd (x_dk dn_447_0_1_ok 0 rfl)))))
  (e_Tok2
  (e_Tok2
  (e_Lok (sm_iaload (x_dk dn_447_0_1_ok 1 rfl)))
  (e_Lok (ps_iconst_1 (x_dk dn_447_0_1_ok 2 rfl))))
  (e_Tok2
  (e_Lok (e_st (I := eI) (er_icmpne (off := 7) (tg := 47) (x_dk dn_447_0_1_ok 3 rfl) (by decide)) nx_if2))
  (e_Lok (ps_iconst_2 (x_dk dn_447_0_1_ok 4 rfl))))))))
def te_447_30 : Nat → eE := (e_T 68 (e_T 54 (e_T 48 (e_T 44 (e_L 44 (0, ei_goto 62, 0, 0)) (e_T 47 (e_L 47 (0, ei_load 0 2 48, 0, 0)) (e_L 48 (0, ei_load 1 0 49, 0, 0)))) (e_T 50 (e_T 49 (e_L 49 (0, ei_push (0, 4) 50, 0, 0)) (e_L 50 (0, ei_bin eF_sub 51, 0, 0))) (e_T 51 (e_L 51 (2, e_nof, 399, 2)) (e_L 54 (0, ei_if1 0 61 57, 0, 0))))) (e_T 62 (e_T 58 (e_T 57 (e_L 57 (0, ei_push (0, 1) 58, 0, 0)) (e_L 58 (0, ei_goto 62, 0, 0))) (e_T 61 (e_L 61 (0, ei_push (0, 0) 62, 0, 0)) (e_L 62 (1, e_nof, 1, 0)))) (e_T 64 (e_T 63 (e_L 63 (0, ei_load 0 2 64, 0, 0)) (e_L 64 (0, ei_getf eft elay 12 0 67, 0, 0))) (e_T 67 (e_L 67 (0, ei_load 1 0 68, 0, 0)) (e_L 68 (0, ei_if1 1 75 71, 0, 0)))))) (e_T 81 (e_T 75 (e_T 71 (e_L 71 (0, ei_push (0, 1) 72, 0, 0)) (e_T 72 (e_L 72 (0, ei_goto 94, 0, 0)) (e_L 75 (0, ei_load 1 0 76, 0, 0)))) (e_T 77 (e_T 76 (e_L 76 (0, ei_push (0, 1) 77, 0, 0)) (e_L 77 (0, ei_if2 1 84 80, 0, 0))) (e_T 80 (e_L 80 (0, ei_push (0, 2) 81, 0, 0)) (e_L 81 (0, ei_goto 94, 0, 0))))) (e_T 89 (e_T 85 (e_T 84 (e_L 84 (0, ei_load 1 0 85, 0, 0)) (e_L 85 (0, ei_push (0, 2) 86, 0, 0))) (e_T 86 (e_L 86 (0, ei_if2 1 93 89, 0, 0)) (e_L 89 (0, ei_push (0, 3) 90, 0, 0)))) (e_T 93 (e_T 90 (e_L 90 (0, ei_goto 94, 0, 0)) (e_L 93 (0, ei_push (0, 4) 94, 0, 0))) (e_T 94 (e_L 94 (0, ei_ald elay false 95, 0, 0)) (e_L 95 (1, e_nof, 1, 0)))))))
set_option maxRecDepth 20000 in
set_option maxHeartbeats 4000000 in
theorem te_447_30_ok : ∀ pc, e_EOq eft cls elay eI n_447 pc (te_447_30 pc) :=
  (e_Tok2
  (e_Tok2
  (e_Tok2
  (e_Tok2
  (e_Lok (e_st (I := eI) (er_goto (off := 18) (tg := 62) (x_dk dn_447_0_1_ok 5 rfl) (by decide)) nx_goto))
  (e_Tok2
  (e_Lok (ld_aload_n_0 (x_dk dn_447_0_1_ok 6 rfl)))
  (e_Lok (ld_iload_n_1 (x_dk dn_447_0_1_ok 7 rfl)))))
  (e_Tok2
  (e_Tok2
  (e_Lok (ps_iconst_4 (x_dk dn_447_0_1_ok 8 rfl)))
  (e_Lok (sm_isub (x_dk dn_447_0_1_ok 9 rfl))))
  (e_Tok2
  (e_Lok (lk_12_780 ho_447 (x_dk dn_447_0_1_ok 10 rfl)))
  (e_Lok (e_st (I := eI) (er_ifeq (off := 7) (tg := 61) (x_dk dn_447_0_1_ok 11 rfl) (by decide)) nx_if1)))))
  (e_Tok2
  (e_Tok2
  (e_Tok2
  (e_Lok (ps_iconst_1 (x_dk dn_447_0_1_ok 12 rfl)))
  (e_Lok (e_st (I := eI) (er_goto (off := 4) (tg := 62) (x_dk dn_447_0_1_ok 13 rfl) (by decide)) nx_goto)))
  (e_Tok2
  (e_Lok (ps_iconst_0 (x_dk dn_447_0_1_ok 14 rfl)))
  (e_Lok (e_rt (I := eI) (k := 1) ⟨(x_dk dn_447_0_1_ok 15 rfl), rfl⟩))))
  (e_Tok2
  (e_Tok2
  (e_Lok (ld_aload_n_0 (x_dk dn_447_0_1_ok 16 rfl)))
  (e_Lok (lk_12_8g ho_447 (x_dk dn_447_0_1_ok 17 rfl))))
  (e_Tok2
  (e_Lok (ld_iload_n_1 (x_dk dn_447_0_1_ok 18 rfl)))
  (e_Lok (e_st (I := eI) (er_ifne (off := 7) (tg := 75) (x_dk dn_447_0_1_ok 19 rfl) (by decide)) nx_if1))))))
  (e_Tok2
  (e_Tok2
  (e_Tok2
  (e_Lok (ps_iconst_1 (x_dk dn_447_0_1_ok 20 rfl)))
  (e_Tok2
  (e_Lok (e_st (I := eI) (er_goto (off := 22) (tg := 94) (x_dk dn_447_0_1_ok 21 rfl) (by decide)) nx_goto))
  (e_Lok (ld_iload_n_1 (x_dk dn_447_0_1_ok 22 rfl)))))
  (e_Tok2
  (e_Tok2
  (e_Lok (ps_iconst_1 (x_dk dn_447_0_1_ok 23 rfl)))
  (e_Lok (e_st (I := eI) (er_icmpne (off := 7) (tg := 84) (x_dk dn_447_0_1_ok 24 rfl) (by decide)) nx_if2)))
  (e_Tok2
  (e_Lok (ps_iconst_2 (x_dk dn_447_0_2_ok 0 rfl)))
  (e_Lok (e_st (I := eI) (er_goto (off := 13) (tg := 94) (x_dk dn_447_0_2_ok 1 rfl) (by decide)) nx_goto)))))
  (e_Tok2
  (e_Tok2
  (e_Tok2
  (e_Lok (ld_iload_n_1 (x_dk dn_447_0_2_ok 2 rfl)))
  (e_Lok (ps_iconst_2 (x_dk dn_447_0_2_ok 3 rfl))))
  (e_Tok2
  (e_Lok (e_st (I := eI) (er_icmpne (off := 7) (tg := 93) (x_dk dn_447_0_2_ok 4 rfl) (by decide)) nx_if2))
  (e_Lok (ps_iconst_3 (x_dk dn_447_0_2_ok 5 rfl)))))
  (e_Tok2
  (e_Tok2
  (e_Lok (e_st (I := eI) (er_goto (off := 4) (tg := 94) (x_dk dn_447_0_2_ok 6 rfl) (by decide)) nx_goto))
  (e_Lok (ps_iconst_4 (x_dk dn_447_0_2_ok 7 rfl))))
  (e_Tok2
  (e_Lok (sm_iaload (x_dk dn_447_0_2_ok 8 rfl)))
  (e_Lok (e_rt (I := eI) (k := 1) ⟨(x_dk dn_447_0_2_ok 9 rfl), rfl⟩)))))))
def te_447 : Nat → eE := (e_T 43 te_447_0 te_447_30)
theorem te_447_ok : ∀ pc, e_EOq eft cls elay eI n_447 pc (te_447 pc) := (e_Tok2 (te_447_0_ok) (te_447_30_ok))
theorem ho_448 : (xm_y n_448).cls = "RobotCellHouseModel" := rfl
def dn_448_0_0 : List (Nat × Instr × Nat) := [(0, .aload_n 0, 1), (1, .getfield 8, 3), (4, .iconst 5, 1), (5, .iaload, 1), (6, .ireturn, 1)]
set_option maxRecDepth 20000 in
theorem dn_448_0_0_ok : dn_448_0_0.all (fun q => decide (decode (xm_b n_448) q.1 = .ok (q.2.1, q.2.2))) = true := xa_g_ok (by decide +kernel)
def te_448_0 : Nat → eE := (e_T 1 (e_T 0 (e_L 0 (0, ei_load 0 2 1, 0, 0)) (e_L 1 (0, ei_getf eft elay 12 0 4, 0, 0))) (e_T 4 (e_L 4 (0, ei_push (0, 5) 5, 0, 0)) (e_T 5 (e_L 5 (0, ei_ald elay false 6, 0, 0)) (e_L 6 (1, e_nof, 1, 0)))))
set_option maxRecDepth 20000 in
set_option maxHeartbeats 4000000 in
theorem te_448_0_ok : ∀ pc, e_EOq eft cls elay eI n_448 pc (te_448_0 pc) :=
  (e_Tok2
  (e_Tok2
  (e_Lok (ld_aload_n_0 (x_dk dn_448_0_0_ok 0 rfl)))
  (e_Lok (lk_12_8g ho_448 (x_dk dn_448_0_0_ok 1 rfl))))
  (e_Tok2
  (e_Lok (ps_iconst_5 (x_dk dn_448_0_0_ok 2 rfl)))
  (e_Tok2
  (e_Lok (sm_iaload (x_dk dn_448_0_0_ok 3 rfl)))
  (e_Lok (e_rt (I := eI) (k := 1) ⟨(x_dk dn_448_0_0_ok 4 rfl), rfl⟩)))))
def te_448 : Nat → eE := te_448_0
theorem te_448_ok : ∀ pc, e_EOq eft cls elay eI n_448 pc (te_448 pc) := te_448_0_ok
theorem ho_449 : (xm_y n_449).cls = "RobotCellHouseModel" := rfl
def dn_449_0_0 : List (Nat × Instr × Nat) := [(0, .iload_n 1, 1), (1, .i2l, 1), (2, .lconst 0, 1), (3, .aload_n 0, 1), (4, .getfield 8, 3), (7, .iconst 5, 1), (8, .iaload, 1), (9, .sipush 2000, 3), (12, .if_icmp .ge 12, 3), (15, .aload_n 0, 1), (16, .getfield 8, 3), (19, .iconst 5, 1), (20, .iaload, 1), (21, .goto 6, 3), (24, .sipush 2000, 3), (27, .iconst 1, 1), (28, .isub, 1), (29, .i2l, 1), (30, .invokestatic 301, 3), (33, .ifCond .eq 32, 3), (36, .iload_n 2, 1), (37, .i2l, 1), (38, .lconst 0, 1), (39, .ldc2_w 348, 3), (42, .invokestatic 301, 3)]
set_option maxRecDepth 20000 in
theorem dn_449_0_0_ok : dn_449_0_0.all (fun q => decide (decode (xm_b n_449) q.1 = .ok (q.2.1, q.2.2))) = true := xa_g_ok (by decide +kernel)
def dn_449_0_1 : List (Nat × Instr × Nat) := [(45, .ifCond .eq 20, 3), (48, .aload_n 0, 1), (49, .getfield 8, 3), (52, .sipush 25060, 3), (55, .iconst 4, 1), (56, .iload_n 1, 1), (57, .imul, 1), (58, .iadd, 1), (59, .iload_n 2, 1), (60, .iadd, 1), (61, .iaload, 1), (62, .goto 4, 3), (65, .iconst (-1), 1), (66, .ireturn, 1)]
set_option maxRecDepth 20000 in
theorem dn_449_0_1_ok : dn_449_0_1.all (fun q => decide (decode (xm_b n_449) q.1 = .ok (q.2.1, q.2.2))) = true := xa_g_ok (by decide +kernel)
def te_449_0 : Nat → eE := (e_T 30 (e_T 12 (e_T 3 (e_T 1 (e_T 0 (e_L 0 (0, ei_load 1 0 1, 0, 0)) (e_L 1 (0, ei_un (fun x => (4, x)) 2, 0, 0))) (e_T 2 (e_L 2 (0, ei_push (4, 0) 3, 0, 0)) (e_L 3 (0, ei_load 0 2 4, 0, 0)))) (e_T 7 (e_T 4 (e_L 4 (0, ei_getf eft elay 12 0 7, 0, 0)) (e_L 7 (0, ei_push (0, 5) 8, 0, 0))) (e_T 8 (e_L 8 (0, ei_ald elay false 9, 0, 0)) (e_T 9 (e_L 9 (0, ei_push (0, 2000) 12, 0, 0)) (e_L 12 (0, ei_if2 3 24 15, 0, 0)))))) (e_T 21 (e_T 16 (e_T 15 (e_L 15 (0, ei_load 0 2 16, 0, 0)) (e_L 16 (0, ei_getf eft elay 12 0 19, 0, 0))) (e_T 19 (e_L 19 (0, ei_push (0, 5) 20, 0, 0)) (e_T 20 (e_L 20 (0, ei_ald elay false 21, 0, 0)) (e_L 21 (0, ei_goto 27, 0, 0))))) (e_T 27 (e_T 24 (e_L 24 (0, ei_push (0, 2000) 27, 0, 0)) (e_L 27 (0, ei_push (0, 1) 28, 0, 0))) (e_T 28 (e_L 28 (0, ei_bin eF_sub 29, 0, 0)) (e_T 29 (e_L 29 (0, ei_un (fun x => (4, x)) 30, 0, 0)) (e_L 30 (2, e_nof, 266, 3))))))) (e_T 52 (e_T 39 (e_T 36 (e_T 33 (e_L 33 (0, ei_if1 0 65 36, 0, 0)) (e_L 36 (0, ei_load 2 0 37, 0, 0))) (e_T 37 (e_L 37 (0, ei_un (fun x => (4, x)) 38, 0, 0)) (e_T 38 (e_L 38 (0, ei_push (4, 0) 39, 0, 0)) (e_L 39 (0, ei_push (4, 3) 42, 0, 0))))) (e_T 45 (e_T 42 (e_L 42 (2, e_nof, 266, 3)) (e_L 45 (0, ei_if1 0 65 48, 0, 0))) (e_T 48 (e_L 48 (0, ei_load 0 2 49, 0, 0)) (e_T 49 (e_L 49 (0, ei_getf eft elay 12 0 52, 0, 0)) (e_L 52 (0, ei_push (0, 25060) 55, 0, 0)))))) (e_T 59 (e_T 56 (e_T 55 (e_L 55 (0, ei_push (0, 4) 56, 0, 0)) (e_L 56 (0, ei_load 1 0 57, 0, 0))) (e_T 57 (e_L 57 (0, ei_bin eF_mul 58, 0, 0)) (e_T 58 (e_L 58 (0, ei_bin eF_add 59, 0, 0)) (e_L 59 (0, ei_load 2 0 60, 0, 0))))) (e_T 61 (e_T 60 (e_L 60 (0, ei_bin eF_add 61, 0, 0)) (e_L 61 (0, ei_ald elay false 62, 0, 0))) (e_T 62 (e_L 62 (0, ei_goto 66, 0, 0)) (e_T 65 (e_L 65 (0, ei_push (0, (-1)) 66, 0, 0)) (e_L 66 (1, e_nof, 1, 0))))))))
set_option maxRecDepth 20000 in
set_option maxHeartbeats 4000000 in
theorem te_449_0_ok : ∀ pc, e_EOq eft cls elay eI n_449 pc (te_449_0 pc) :=
  (e_Tok2
  (e_Tok2
  (e_Tok2
  (e_Tok2
  (e_Tok2
  (e_Lok (ld_iload_n_1 (x_dk dn_449_0_0_ok 0 rfl)))
  (e_Lok (e_st (I := eI) (er_i2l (x_dk dn_449_0_0_ok 1 rfl)) (nx_un (fun _ => rfl)))))
  (e_Tok2
  (e_Lok (ps_lconst_0 (x_dk dn_449_0_0_ok 2 rfl)))
  (e_Lok (ld_aload_n_0 (x_dk dn_449_0_0_ok 3 rfl)))))
  (e_Tok2
  (e_Tok2
  (e_Lok (lk_12_8g ho_449 (x_dk dn_449_0_0_ok 4 rfl)))
  (e_Lok (ps_iconst_5 (x_dk dn_449_0_0_ok 5 rfl))))
  (e_Tok2
  (e_Lok (sm_iaload (x_dk dn_449_0_0_ok 6 rfl)))
  (e_Tok2
  (e_Lok (ps_sipush_2000 (x_dk dn_449_0_0_ok 7 rfl)))
  (e_Lok (e_st (I := eI) (er_icmpge (off := 12) (tg := 24) (x_dk dn_449_0_0_ok 8 rfl) (by decide)) nx_if2))))))
  (e_Tok2
  (e_Tok2
  (e_Tok2
  (e_Lok (ld_aload_n_0 (x_dk dn_449_0_0_ok 9 rfl)))
  (e_Lok (lk_12_8g ho_449 (x_dk dn_449_0_0_ok 10 rfl))))
  (e_Tok2
  (e_Lok (ps_iconst_5 (x_dk dn_449_0_0_ok 11 rfl)))
  (e_Tok2
  (e_Lok (sm_iaload (x_dk dn_449_0_0_ok 12 rfl)))
  (e_Lok (e_st (I := eI) (er_goto (off := 6) (tg := 27) (x_dk dn_449_0_0_ok 13 rfl) (by decide)) nx_goto)))))
  (e_Tok2
  (e_Tok2
  (e_Lok (ps_sipush_2000 (x_dk dn_449_0_0_ok 14 rfl)))
  (e_Lok (ps_iconst_1 (x_dk dn_449_0_0_ok 15 rfl))))
  (e_Tok2
  (e_Lok (sm_isub (x_dk dn_449_0_0_ok 16 rfl)))
  (e_Tok2
  (e_Lok (e_st (I := eI) (er_i2l (x_dk dn_449_0_0_ok 17 rfl)) (nx_un (fun _ => rfl))))
  (e_Lok (lk_12_301 ho_449 (x_dk dn_449_0_0_ok 18 rfl))))))))
  (e_Tok2
  (e_Tok2
  (e_Tok2
  (e_Tok2
  (e_Lok (e_st (I := eI) (er_ifeq (off := 32) (tg := 65) (x_dk dn_449_0_0_ok 19 rfl) (by decide)) nx_if1))
  (e_Lok (ld_iload_n_2 (x_dk dn_449_0_0_ok 20 rfl))))
  (e_Tok2
  (e_Lok (e_st (I := eI) (er_i2l (x_dk dn_449_0_0_ok 21 rfl)) (nx_un (fun _ => rfl))))
  (e_Tok2
  (e_Lok (ps_lconst_0 (x_dk dn_449_0_0_ok 22 rfl)))
  (e_Lok (e_st (I := eI) (er_ldc2 (ix := 348) (z := 3) (v := 3) (x_dk dn_449_0_0_ok 23 rfl) (in_t11 (List.mem_of_getElem? (i := 71) rfl) rfl) (by decide)) (nx_push (Or.inl rfl)))))))
  (e_Tok2
  (e_Tok2
  (e_Lok (lk_12_301 ho_449 (x_dk dn_449_0_0_ok 24 rfl)))
  (e_Lok (e_st (I := eI) (er_ifeq (off := 20) (tg := 65) (x_dk dn_449_0_1_ok 0 rfl) (by decide)) nx_if1)))
  (e_Tok2
  (e_Lok (ld_aload_n_0 (x_dk dn_449_0_1_ok 1 rfl)))
  (e_Tok2
  (e_Lok (lk_12_8g ho_449 (x_dk dn_449_0_1_ok 2 rfl)))
  (e_Lok (ps_sipush_25060 (x_dk dn_449_0_1_ok 3 rfl)))))))
  (e_Tok2
  (e_Tok2
  (e_Tok2
  (e_Lok (ps_iconst_4 (x_dk dn_449_0_1_ok 4 rfl)))
  (e_Lok (ld_iload_n_1 (x_dk dn_449_0_1_ok 5 rfl))))
  (e_Tok2
  (e_Lok (sm_imul (x_dk dn_449_0_1_ok 6 rfl)))
  (e_Tok2
  (e_Lok (sm_iadd (x_dk dn_449_0_1_ok 7 rfl)))
  (e_Lok (ld_iload_n_2 (x_dk dn_449_0_1_ok 8 rfl))))))
  (e_Tok2
  (e_Tok2
  (e_Lok (sm_iadd (x_dk dn_449_0_1_ok 9 rfl)))
  (e_Lok (sm_iaload (x_dk dn_449_0_1_ok 10 rfl))))
  (e_Tok2
  (e_Lok (e_st (I := eI) (er_goto (off := 4) (tg := 66) (x_dk dn_449_0_1_ok 11 rfl) (by decide)) nx_goto))
  (e_Tok2
  (e_Lok (ps_iconst_m1 (x_dk dn_449_0_1_ok 12 rfl)))
  (e_Lok (e_rt (I := eI) (k := 1) ⟨(x_dk dn_449_0_1_ok 13 rfl), rfl⟩))))))))
def te_449 : Nat → eE := te_449_0
theorem te_449_ok : ∀ pc, e_EOq eft cls elay eI n_449 pc (te_449 pc) := te_449_0_ok
end
