noncomputable section
theorem ho_170 : (xm_y n_170).cls = "RobotCellHouse$Shapes" := rfl
def dn_170_0_0 : List (Nat × Instr × Nat) := [(0, .aload_n 2, 1), (1, .getfield 61, 3), (4, .iload_n 3, 1), (5, .iaload, 1), (6, .aload_n 0, 1), (7, .getfield 33, 3), (10, .iload_n 1, 1), (11, .iaload, 1), (12, .aload_n 0, 1), (13, .getfield 39, 3), (16, .iload_n 1, 1), (17, .iaload, 1), (18, .invokestatic 62, 3), (21, .ifCond .eq 27, 3), (24, .aload_n 2, 1), (25, .getfield 66, 3), (28, .iload_n 3, 1), (29, .iaload, 1), (30, .aload_n 0, 1), (31, .getfield 36, 3), (34, .iload_n 1, 1), (35, .iaload, 1), (36, .aload_n 0, 1), (37, .getfield 42, 3), (40, .iload_n 1, 1)]
set_option maxRecDepth 20000 in
theorem dn_170_0_0_ok : dn_170_0_0.all (fun q => decide (decode (xm_b n_170) q.1 = .ok (q.2.1, q.2.2))) = true := xa_g_ok (by decide +kernel)
def dn_170_0_1 : List (Nat × Instr × Nat) := [(41, .iaload, 1), (42, .invokestatic 62, 3), (45, .ifCond .ne 5, 3), (48, .iconst 0, 1), (49, .ireturn, 1), (50, .aload_n 0, 1), (51, .getfield 30, 3), (54, .iload_n 1, 1), (55, .iaload, 1), (56, .ifCond .ge 5, 3), (59, .iconst 1, 1), (60, .ireturn, 1), (61, .aload_n 2, 1), (62, .getfield 61, 3), (65, .iload_n 3, 1), (66, .iaload, 1), (67, .aload_n 2, 1), (68, .getfield 67, 3), (71, .iload_n 3, 1), (72, .iaload, 1), (73, .isub, 1), (74, .aload_n 2, 1), (75, .getfield 66, 3), (78, .iload_n 3, 1), (79, .iaload, 1)]
set_option maxRecDepth 20000 in
theorem dn_170_0_1_ok : dn_170_0_1.all (fun q => decide (decode (xm_b n_170) q.1 = .ok (q.2.1, q.2.2))) = true := xa_g_ok (by decide +kernel)
def dn_170_0_2 : List (Nat × Instr × Nat) := [(80, .aload_n 2, 1), (81, .getfield 70, 3), (84, .iload_n 3, 1), (85, .iaload, 1), (86, .isub, 1), (87, .invokestatic 73, 3), (90, .lstore 4, 2), (92, .lload 4, 2), (94, .aload_n 0, 1), (95, .getfield 30, 3), (98, .iload_n 1, 1), (99, .iaload, 1), (100, .i2l, 1), (101, .aload_n 0, 1), (102, .getfield 30, 3), (105, .iload_n 1, 1), (106, .iaload, 1), (107, .i2l, 1), (108, .lmul, 1), (109, .lcmp, 1), (110, .ifCond .le 7, 3), (113, .iconst 1, 1), (114, .goto 4, 3), (117, .iconst 0, 1), (118, .ireturn, 1)]
set_option maxRecDepth 20000 in
theorem dn_170_0_2_ok : dn_170_0_2.all (fun q => decide (decode (xm_b n_170) q.1 = .ok (q.2.1, q.2.2))) = true := xa_g_ok (by decide +kernel)
def te_170_0 : Nat → eE := (e_T 29 (e_T 12 (e_T 5 (e_T 1 (e_T 0 (e_L 0 (0, ei_load 2 2 1, 0, 0)) (e_L 1 (0, ei_getf eft elay 0 1 4, 0, 0))) (e_T 4 (e_L 4 (0, ei_load 3 0 5, 0, 0)) (e_L 5 (0, ei_ald elay false 6, 0, 0)))) (e_T 7 (e_T 6 (e_L 6 (0, ei_load 0 2 7, 0, 0)) (e_L 7 (0, ei_getf eft elay 9 9 10, 0, 0))) (e_T 10 (e_L 10 (0, ei_load 1 0 11, 0, 0)) (e_T 11 (e_L 11 (0, ei_ald elay false 12, 0, 0)) (e_L 12 (0, ei_load 0 2 13, 0, 0)))))) (e_T 18 (e_T 16 (e_T 13 (e_L 13 (0, ei_getf eft elay 9 11 16, 0, 0)) (e_L 16 (0, ei_load 1 0 17, 0, 0))) (e_T 17 (e_L 17 (0, ei_ald elay false 18, 0, 0)) (e_L 18 (2, e_nof, 242, 3)))) (e_T 24 (e_T 21 (e_L 21 (0, ei_if1 0 48 24, 0, 0)) (e_L 24 (0, ei_load 2 2 25, 0, 0))) (e_T 25 (e_L 25 (0, ei_getf eft elay 0 2 28, 0, 0)) (e_T 28 (e_L 28 (0, ei_load 3 0 29, 0, 0)) (e_L 29 (0, ei_ald elay false 30, 0, 0))))))) (e_T 42 (e_T 35 (e_T 31 (e_T 30 (e_L 30 (0, ei_load 0 2 31, 0, 0)) (e_L 31 (0, ei_getf eft elay 9 10 34, 0, 0))) (e_T 34 (e_L 34 (0, ei_load 1 0 35, 0, 0)) (e_L 35 (0, ei_ald elay false 36, 0, 0)))) (e_T 37 (e_T 36 (e_L 36 (0, ei_load 0 2 37, 0, 0)) (e_L 37 (0, ei_getf eft elay 9 12 40, 0, 0))) (e_T 40 (e_L 40 (0, ei_load 1 0 41, 0, 0)) (e_T 41 (e_L 41 (0, ei_ald elay false 42, 0, 0)) (e_L 42 (2, e_nof, 242, 3)))))) (e_T 51 (e_T 48 (e_T 45 (e_L 45 (0, ei_if1 1 50 48, 0, 0)) (e_L 48 (0, ei_push (0, 0) 49, 0, 0))) (e_T 49 (e_L 49 (1, e_nof, 4, 0)) (e_T 50 (e_L 50 (0, ei_load 0 2 51, 0, 0)) (e_L 51 (0, ei_getf eft elay 9 8 54, 0, 0))))) (e_T 55 (e_T 54 (e_L 54 (0, ei_load 1 0 55, 0, 0)) (e_L 55 (0, ei_ald elay false 56, 0, 0))) (e_T 56 (e_L 56 (0, ei_if1 3 61 59, 0, 0)) (e_T 59 (e_L 59 (0, ei_push (0, 1) 60, 0, 0)) (e_L 60 (1, e_nof, 4, 0))))))))
set_option maxRecDepth 20000 in
set_option maxHeartbeats 4000000 in
theorem te_170_0_ok : ∀ pc, e_EOq eft cls elay eI n_170 pc (te_170_0 pc) :=
  (e_Tok2
  (e_Tok2
  (e_Tok2
  (e_Tok2
  (e_Tok2
  (e_Lok (ld_aload_n_2 (x_dk dn_170_0_0_ok 0 rfl)))
  (e_Lok (lk_9_61g ho_170 (x_dk dn_170_0_0_ok 1 rfl))))
  (e_Tok2
  (e_Lok (ld_iload_n_3 (x_dk dn_170_0_0_ok 2 rfl)))
  (e_Lok (sm_iaload (x_dk dn_170_0_0_ok 3 rfl)))))
  (e_Tok2
  (e_Tok2
  (e_Lok (ld_aload_n_0 (x_dk dn_170_0_0_ok 4 rfl)))
  (e_Lok (lk_9_33g ho_170 (x_dk dn_170_0_0_ok 5 rfl))))
  (e_Tok2
  (e_Lok (ld_iload_n_1 (x_dk dn_170_0_0_ok 6 rfl)))
  (e_Tok2
  (e_Lok (sm_iaload (x_dk dn_170_0_0_ok 7 rfl)))
  (e_Lok (ld_aload_n_0 (x_dk dn_170_0_0_ok 8 rfl)))))))
  (e_Tok2
  (e_Tok2
  (e_Tok2
  (e_Lok (lk_9_39g ho_170 (x_dk dn_170_0_0_ok 9 rfl)))
  (e_Lok (ld_iload_n_1 (x_dk dn_170_0_0_ok 10 rfl))))
  (e_Tok2
  (e_Lok (sm_iaload (x_dk dn_170_0_0_ok 11 rfl)))
  (e_Lok (lk_9_62 ho_170 (x_dk dn_170_0_0_ok 12 rfl)))))
  (e_Tok2
  (e_Tok2
  (e_Lok (e_st (I := eI) (er_ifeq (off := 27) (tg := 48) (x_dk dn_170_0_0_ok 13 rfl) (by decide)) nx_if1))
  (e_Lok (ld_aload_n_2 (x_dk dn_170_0_0_ok 14 rfl))))
  (e_Tok2
  (e_Lok (lk_9_66g ho_170 (x_dk dn_170_0_0_ok 15 rfl)))
  (e_Tok2
  (e_Lok (ld_iload_n_3 (x_dk dn_170_0_0_ok 16 rfl)))
  (e_Lok (sm_iaload (x_dk dn_170_0_0_ok 17 rfl))))))))
  (e_Tok2
  (e_Tok2
  (e_Tok2
  (e_Tok2
  (e_Lok (ld_aload_n_0 (x_dk dn_170_0_0_ok 18 rfl)))
  (e_Lok (lk_9_36g ho_170 (x_dk dn_170_0_0_ok 19 rfl))))
  (e_Tok2
  (e_Lok (ld_iload_n_1 (x_dk dn_170_0_0_ok 20 rfl)))
  (e_Lok (sm_iaload (x_dk dn_170_0_0_ok 21 rfl)))))
  (e_Tok2
  (e_Tok2
  (e_Lok (ld_aload_n_0 (x_dk dn_170_0_0_ok 22 rfl)))
  (e_Lok (lk_9_42g ho_170 (x_dk dn_170_0_0_ok 23 rfl))))
  (e_Tok2
  (e_Lok (ld_iload_n_1 (x_dk dn_170_0_0_ok 24 rfl)))
  (e_Tok2
  (e_Lok (sm_iaload (x_dk dn_170_0_1_ok 0 rfl)))
  (e_Lok (lk_9_62 ho_170 (x_dk dn_170_0_1_ok 1 rfl)))))))
  (e_Tok2
  (e_Tok2
  (e_Tok2
  (e_Lok (e_st (I := eI) (er_ifne (off := 5) (tg := 50) (x_dk dn_170_0_1_ok 2 rfl) (by decide)) nx_if1))
  (e_Lok (ps_iconst_0 (x_dk dn_170_0_1_ok 3 rfl))))
  (e_Tok2
  (e_Lok (e_rt (I := eI) (k := 4) ⟨(x_dk dn_170_0_1_ok 4 rfl), rfl⟩))
  (e_Tok2
  (e_Lok (ld_aload_n_0 (x_dk dn_170_0_1_ok 5 rfl)))
  (e_Lok (lk_9_30g ho_170 (x_dk dn_170_0_1_ok 6 rfl))))))
  (e_Tok2
  (e_Tok2
  (e_Lok (ld_iload_n_1 (x_dk dn_170_0_1_ok 7 rfl)))
  (e_Lok (sm_iaload (x_dk dn_170_0_1_ok 8 rfl))))
  (e_Tok2
  (e_Lok (e_st (I := eI) (er_ifge (off := 5) (tg := 61) (x_dk dn_170_0_1_ok 9 rfl) (by decide)) nx_if1))
  (e_Tok2
  (e_Lok (ps_iconst_1 (x_dk dn_170_0_1_ok 10 rfl)))
  (e_Lok (e_rt (I := eI) (k := 4) ⟨(x_dk dn_170_0_1_ok 11 rfl), rfl⟩))))))))
def te_170_37 : Nat → eE := (e_T 87 (e_T 73 (e_T 66 (e_T 62 (e_T 61 (e_L 61 (0, ei_load 2 2 62, 0, 0)) (e_L 62 (0, ei_getf eft elay 0 1 65, 0, 0))) (e_T 65 (e_L 65 (0, ei_load 3 0 66, 0, 0)) (e_L 66 (0, ei_ald elay false 67, 0, 0)))) (e_T 68 (e_T 67 (e_L 67 (0, ei_load 2 2 68, 0, 0)) (e_L 68 (0, ei_getf eft elay 0 3 71, 0, 0))) (e_T 71 (e_L 71 (0, ei_load 3 0 72, 0, 0)) (e_T 72 (e_L 72 (0, ei_ald elay false 73, 0, 0)) (e_L 73 (0, ei_bin eF_sub 74, 0, 0)))))) (e_T 80 (e_T 75 (e_T 74 (e_L 74 (0, ei_load 2 2 75, 0, 0)) (e_L 75 (0, ei_getf eft elay 0 2 78, 0, 0))) (e_T 78 (e_L 78 (0, ei_load 3 0 79, 0, 0)) (e_T 79 (e_L 79 (0, ei_ald elay false 80, 0, 0)) (e_L 80 (0, ei_load 2 2 81, 0, 0))))) (e_T 84 (e_T 81 (e_L 81 (0, ei_getf eft elay 0 4 84, 0, 0)) (e_L 84 (0, ei_load 3 0 85, 0, 0))) (e_T 85 (e_L 85 (0, ei_ald elay false 86, 0, 0)) (e_T 86 (e_L 86 (0, ei_bin eF_sub 87, 0, 0)) (e_L 87 (2, e_nof, 178, 2))))))) (e_T 102 (e_T 95 (e_T 92 (e_T 90 (e_L 90 (0, ei_stor 4 1 92, 0, 0)) (e_L 92 (0, ei_load 4 1 94, 0, 0))) (e_T 94 (e_L 94 (0, ei_load 0 2 95, 0, 0)) (e_L 95 (0, ei_getf eft elay 9 8 98, 0, 0)))) (e_T 99 (e_T 98 (e_L 98 (0, ei_load 1 0 99, 0, 0)) (e_L 99 (0, ei_ald elay false 100, 0, 0))) (e_T 100 (e_L 100 (0, ei_un (fun x => (4, x)) 101, 0, 0)) (e_T 101 (e_L 101 (0, ei_load 0 2 102, 0, 0)) (e_L 102 (0, ei_getf eft elay 9 8 105, 0, 0)))))) (e_T 109 (e_T 106 (e_T 105 (e_L 105 (0, ei_load 1 0 106, 0, 0)) (e_L 106 (0, ei_ald elay false 107, 0, 0))) (e_T 107 (e_L 107 (0, ei_un (fun x => (4, x)) 108, 0, 0)) (e_T 108 (e_L 108 (0, ei_binL eG_mul 109, 0, 0)) (e_L 109 (0, ei_binL eG_cmp 110, 0, 0))))) (e_T 113 (e_T 110 (e_L 110 (0, ei_if1 5 117 113, 0, 0)) (e_L 113 (0, ei_push (0, 1) 114, 0, 0))) (e_T 114 (e_L 114 (0, ei_goto 118, 0, 0)) (e_T 117 (e_L 117 (0, ei_push (0, 0) 118, 0, 0)) (e_L 118 (1, e_nof, 4, 0))))))))
set_option maxRecDepth 20000 in
set_option maxHeartbeats 4000000 in
theorem te_170_37_ok : ∀ pc, e_EOq eft cls elay eI n_170 pc (te_170_37 pc) :=
  (e_Tok2
  (e_Tok2
  (e_Tok2
  (e_Tok2
  (e_Tok2
  (e_Lok (ld_aload_n_2 (x_dk dn_170_0_1_ok 12 rfl)))
  (e_Lok (lk_9_61g ho_170 (x_dk dn_170_0_1_ok 13 rfl))))
  (e_Tok2
  (e_Lok (ld_iload_n_3 (x_dk dn_170_0_1_ok 14 rfl)))
  (e_Lok (sm_iaload (x_dk dn_170_0_1_ok 15 rfl)))))
  (e_Tok2
  (e_Tok2
  (e_Lok (ld_aload_n_2 (x_dk dn_170_0_1_ok 16 rfl)))
  (e_Lok (lk_9_67g ho_170 (x_dk dn_170_0_1_ok 17 rfl))))
  (e_Tok2
  (e_Lok (ld_iload_n_3 (x_dk dn_170_0_1_ok 18 rfl)))
  (e_Tok2
  (e_Lok (sm_iaload (x_dk dn_170_0_1_ok 19 rfl)))
  (e_Lok (sm_isub (x_dk dn_170_0_1_ok 20 rfl)))))))
  (e_Tok2
  (e_Tok2
  (e_Tok2
  (e_Lok (ld_aload_n_2 (x_dk dn_170_0_1_ok 21 rfl)))
  (e_Lok (lk_9_66g ho_170 (x_dk dn_170_0_1_ok 22 rfl))))
  (e_Tok2
  (e_Lok (ld_iload_n_3 (x_dk dn_170_0_1_ok 23 rfl)))
  (e_Tok2
  (e_Lok (sm_iaload (x_dk dn_170_0_1_ok 24 rfl)))
  (e_Lok (ld_aload_n_2 (x_dk dn_170_0_2_ok 0 rfl))))))
  (e_Tok2
  (e_Tok2
  (e_Lok (lk_9_70g ho_170 (x_dk dn_170_0_2_ok 1 rfl)))
  (e_Lok (ld_iload_n_3 (x_dk dn_170_0_2_ok 2 rfl))))
  (e_Tok2
  (e_Lok (sm_iaload (x_dk dn_170_0_2_ok 3 rfl)))
  (e_Tok2
  (e_Lok (sm_isub (x_dk dn_170_0_2_ok 4 rfl)))
  (e_Lok (lk_9_73 ho_170 (x_dk dn_170_0_2_ok 5 rfl))))))))
  (e_Tok2
  (e_Tok2
  (e_Tok2
  (e_Tok2
  (e_Lok (e_st (I := eI) (er_lstore (i := 4) (x_dk dn_170_0_2_ok 6 rfl) (by decide +kernel)) nx_stor))
  (e_Lok (ld_lload_4 (x_dk dn_170_0_2_ok 7 rfl))))
  (e_Tok2
  (e_Lok (ld_aload_n_0 (x_dk dn_170_0_2_ok 8 rfl)))
  (e_Lok (lk_9_30g ho_170 (x_dk dn_170_0_2_ok 9 rfl)))))
  (e_Tok2
  (e_Tok2
  (e_Lok (ld_iload_n_1 (x_dk dn_170_0_2_ok 10 rfl)))
  (e_Lok (sm_iaload (x_dk dn_170_0_2_ok 11 rfl))))
  (e_Tok2
  (e_Lok (e_st (I := eI) (er_i2l (x_dk dn_170_0_2_ok 12 rfl)) (nx_un (fun _ => rfl))))
  (e_Tok2
  (e_Lok (ld_aload_n_0 (x_dk dn_170_0_2_ok 13 rfl)))
  (e_Lok (lk_9_30g ho_170 (x_dk dn_170_0_2_ok 14 rfl)))))))
  (e_Tok2
  (e_Tok2
  (e_Tok2
  (e_Lok (ld_iload_n_1 (x_dk dn_170_0_2_ok 15 rfl)))
  (e_Lok (sm_iaload (x_dk dn_170_0_2_ok 16 rfl))))
  (e_Tok2
  (e_Lok (e_st (I := eI) (er_i2l (x_dk dn_170_0_2_ok 17 rfl)) (nx_un (fun _ => rfl))))
  (e_Tok2
  (e_Lok (e_st (I := eI) (er_lmul (x_dk dn_170_0_2_ok 18 rfl)) (nx_binL bG_lmul)))
  (e_Lok (e_st (I := eI) (er_lcmp (x_dk dn_170_0_2_ok 19 rfl)) (nx_binL bG_lcmp))))))
  (e_Tok2
  (e_Tok2
  (e_Lok (e_st (I := eI) (er_ifle (off := 7) (tg := 117) (x_dk dn_170_0_2_ok 20 rfl) (by decide)) nx_if1))
  (e_Lok (ps_iconst_1 (x_dk dn_170_0_2_ok 21 rfl))))
  (e_Tok2
  (e_Lok (e_st (I := eI) (er_goto (off := 4) (tg := 118) (x_dk dn_170_0_2_ok 22 rfl) (by decide)) nx_goto))
  (e_Tok2
  (e_Lok (ps_iconst_0 (x_dk dn_170_0_2_ok 23 rfl)))
  (e_Lok (e_rt (I := eI) (k := 4) ⟨(x_dk dn_170_0_2_ok 24 rfl), rfl⟩))))))))
def te_170 : Nat → eE := (e_T 60 te_170_0 te_170_37)
theorem te_170_ok : ∀ pc, e_EOq eft cls elay eI n_170 pc (te_170 pc) := (e_Tok2 (te_170_0_ok) (te_170_37_ok))
theorem ho_171 : (xm_y n_171).cls = "RobotCellHouse$Shapes" := rfl
def dn_171_0_0 : List (Nat × Instr × Nat) := [(0, .aload_n 1, 1), (1, .iload_n 3, 1), (2, .aaload, 1), (3, .astore 6, 2), (5, .aload 6, 2), (7, .invokevirtual 77, 3), (10, .istore 7, 2), (12, .iconst 0, 1), (13, .istore 8, 2), (15, .iload 8, 2), (17, .iload 7, 2), (19, .if_icmp .ge 171, 3), (22, .aload_n 0, 1), (23, .aload 6, 2), (25, .getfield 61, 3), (28, .iload 8, 2), (30, .iaload, 1), (31, .putfield 81, 3), (34, .aload_n 0, 1), (35, .aload 6, 2), (37, .getfield 66, 3), (40, .iload 8, 2), (42, .iaload, 1), (43, .putfield 84, 3), (46, .aload_n 0, 1)]
set_option maxRecDepth 20000 in
theorem dn_171_0_0_ok : dn_171_0_0.all (fun q => decide (decode (xm_b n_171) q.1 = .ok (q.2.1, q.2.2))) = true := xa_g_ok (by decide +kernel)
def dn_171_0_1 : List (Nat × Instr × Nat) := [(47, .aload 6, 2), (49, .getfield 61, 3), (52, .iload 8, 2), (54, .iconst 1, 1), (55, .iadd, 1), (56, .iaload, 1), (57, .putfield 87, 3), (60, .aload_n 0, 1), (61, .aload 6, 2), (63, .getfield 66, 3), (66, .iload 8, 2), (68, .iconst 1, 1), (69, .iadd, 1), (70, .iaload, 1), (71, .putfield 90, 3), (74, .aload 6, 2), (76, .iload 8, 2), (78, .invokevirtual 93, 3), (81, .iload 5, 2), (83, .iadd, 1), (84, .istore 9, 2), (86, .aload_n 0, 1), (87, .aload 6, 2), (89, .iload 8, 2), (91, .iconst 2, 1)]
set_option maxRecDepth 20000 in
theorem dn_171_0_1_ok : dn_171_0_1.all (fun q => decide (decode (xm_b n_171) q.1 = .ok (q.2.1, q.2.2))) = true := xa_g_ok (by decide +kernel)
def dn_171_0_2 : List (Nat × Instr × Nat) := [(92, .iadd, 1), (93, .iload 9, 2), (95, .invokevirtual 97, 3), (98, .ifCond .eq 5, 3), (101, .iconst 1, 1), (102, .ireturn, 1), (103, .iconst 0, 1), (104, .istore 10, 2), (106, .iload 10, 2), (108, .aload_n 0, 1), (109, .getfield 45, 3), (112, .if_icmp .ge 34, 3), (115, .aload 6, 2), (117, .iload 8, 2), (119, .iload 10, 2), (121, .invokevirtual 101, 3), (124, .ifCond .ne 16, 3), (127, .aload_n 0, 1), (128, .iload 10, 2), (130, .iload 9, 2), (132, .invokevirtual 105, 3), (135, .ifCond .eq 5, 3), (138, .iconst 1, 1), (139, .ireturn, 1), (140, .iinc 10 1, 3)]
set_option maxRecDepth 20000 in
theorem dn_171_0_2_ok : dn_171_0_2.all (fun q => decide (decode (xm_b n_171) q.1 = .ok (q.2.1, q.2.2))) = true := xa_g_ok (by decide +kernel)
def dn_171_0_3 : List (Nat × Instr × Nat) := [(143, .goto (-37), 3), (146, .iload 4, 2), (148, .istore 10, 2), (150, .iload 10, 2), (152, .iload_n 2, 1), (153, .if_icmp .ge 31, 3), (156, .iload 10, 2), (158, .iload_n 3, 1), (159, .if_icmp .eq 19, 3), (162, .aload_n 0, 1), (163, .aload_n 1, 1), (164, .iload 10, 2), (166, .aaload, 1), (167, .iconst 0, 1), (168, .iload 9, 2), (170, .invokevirtual 97, 3), (173, .ifCond .eq 5, 3), (176, .iconst 1, 1), (177, .ireturn, 1), (178, .iinc 10 1, 3), (181, .goto (-31), 3), (184, .iinc 8 1, 3), (187, .goto (-172), 3), (190, .iconst 0, 1), (191, .ireturn, 1)]
set_option maxRecDepth 20000 in
theorem dn_171_0_3_ok : dn_171_0_3.all (fun q => decide (decode (xm_b n_171) q.1 = .ok (q.2.1, q.2.2))) = true := xa_g_ok (by decide +kernel)
def te_171_0 : Nat → eE := (e_T 19 (e_T 7 (e_T 2 (e_T 0 (e_L 0 (0, ei_load 1 2 1, 0, 0)) (e_T 1 (e_L 1 (0, ei_load 3 0 2, 0, 0)) (e_L 2 (0, ei_aald elay 3, 0, 0)))) (e_T 3 (e_L 3 (0, ei_stor 6 2 5, 0, 0)) (e_T 5 (e_L 5 (0, ei_load 6 2 7, 0, 0)) (e_L 7 (2, e_nof, 7, 1))))) (e_T 13 (e_T 10 (e_L 10 (0, ei_stor 7 0 12, 0, 0)) (e_T 12 (e_L 12 (0, ei_push (0, 0) 13, 0, 0)) (e_L 13 (0, ei_stor 8 0 15, 0, 0)))) (e_T 15 (e_L 15 (0, ei_load 8 0 17, 0, 0)) (e_T 17 (e_L 17 (0, ei_load 7 0 19, 0, 0)) (e_L 19 (0, ei_if2 3 190 22, 0, 0)))))) (e_T 31 (e_T 25 (e_T 22 (e_L 22 (0, ei_load 0 2 23, 0, 0)) (e_T 23 (e_L 23 (0, ei_load 6 2 25, 0, 0)) (e_L 25 (0, ei_getf eft elay 0 1 28, 0, 0)))) (e_T 28 (e_L 28 (0, ei_load 8 0 30, 0, 0)) (e_T 30 (e_L 30 (0, ei_ald elay false 31, 0, 0)) (e_L 31 (0, ei_putf eft elay 9 13 0 34, 0, 0))))) (e_T 37 (e_T 34 (e_L 34 (0, ei_load 0 2 35, 0, 0)) (e_T 35 (e_L 35 (0, ei_load 6 2 37, 0, 0)) (e_L 37 (0, ei_getf eft elay 0 2 40, 0, 0)))) (e_T 42 (e_T 40 (e_L 40 (0, ei_load 8 0 42, 0, 0)) (e_L 42 (0, ei_ald elay false 43, 0, 0))) (e_T 43 (e_L 43 (0, ei_putf eft elay 9 14 0 46, 0, 0)) (e_L 46 (0, ei_load 0 2 47, 0, 0)))))))
set_option maxRecDepth 20000 in
set_option maxHeartbeats 4000000 in
theorem te_171_0_ok : ∀ pc, e_EOq eft cls elay eI n_171 pc (te_171_0 pc) :=
  (e_Tok2
  (e_Tok2
  (e_Tok2
  (e_Tok2
  (e_Lok (ld_aload_n_1 (x_dk dn_171_0_0_ok 0 rfl)))
  (e_Tok2
  (e_Lok (ld_iload_n_3 (x_dk dn_171_0_0_ok 1 rfl)))
  (e_Lok (e_st (I := eI) (er_aaload (x_dk dn_171_0_0_ok 2 rfl)) nx_aald))))
  (e_Tok2
  (e_Lok (e_st (I := eI) (er_astore (i := 6) (x_dk dn_171_0_0_ok 3 rfl) (by decide +kernel)) nx_stor))
  (e_Tok2
  (e_Lok (ld_aload_6 (x_dk dn_171_0_0_ok 4 rfl)))
  (e_Lok (lk_9_77 ho_171 (x_dk dn_171_0_0_ok 5 rfl))))))
  (e_Tok2
  (e_Tok2
  (e_Lok (e_st (I := eI) (er_istore (i := 7) (x_dk dn_171_0_0_ok 6 rfl) (by decide +kernel)) nx_stor))
  (e_Tok2
  (e_Lok (ps_iconst_0 (x_dk dn_171_0_0_ok 7 rfl)))
  (e_Lok (e_st (I := eI) (er_istore (i := 8) (x_dk dn_171_0_0_ok 8 rfl) (by decide +kernel)) nx_stor))))
  (e_Tok2
  (e_Lok (ld_iload_8 (x_dk dn_171_0_0_ok 9 rfl)))
  (e_Tok2
  (e_Lok (ld_iload_7 (x_dk dn_171_0_0_ok 10 rfl)))
  (e_Lok (e_st (I := eI) (er_icmpge (off := 171) (tg := 190) (x_dk dn_171_0_0_ok 11 rfl) (by decide)) nx_if2))))))
  (e_Tok2
  (e_Tok2
  (e_Tok2
  (e_Lok (ld_aload_n_0 (x_dk dn_171_0_0_ok 12 rfl)))
  (e_Tok2
  (e_Lok (ld_aload_6 (x_dk dn_171_0_0_ok 13 rfl)))
  (e_Lok (lk_9_61g ho_171 (x_dk dn_171_0_0_ok 14 rfl)))))
  (e_Tok2
  (e_Lok (ld_iload_8 (x_dk dn_171_0_0_ok 15 rfl)))
  (e_Tok2
  (e_Lok (sm_iaload (x_dk dn_171_0_0_ok 16 rfl)))
  (e_Lok (lk_9_81p ho_171 (x_dk dn_171_0_0_ok 17 rfl))))))
  (e_Tok2
  (e_Tok2
  (e_Lok (ld_aload_n_0 (x_dk dn_171_0_0_ok 18 rfl)))
  (e_Tok2
  (e_Lok (ld_aload_6 (x_dk dn_171_0_0_ok 19 rfl)))
  (e_Lok (lk_9_66g ho_171 (x_dk dn_171_0_0_ok 20 rfl)))))
  (e_Tok2
  (e_Tok2
  (e_Lok (ld_iload_8 (x_dk dn_171_0_0_ok 21 rfl)))
  (e_Lok (sm_iaload (x_dk dn_171_0_0_ok 22 rfl))))
  (e_Tok2
  (e_Lok (lk_9_84p ho_171 (x_dk dn_171_0_0_ok 23 rfl)))
  (e_Lok (ld_aload_n_0 (x_dk dn_171_0_0_ok 24 rfl))))))))
def te_171_25 : Nat → eE := (e_T 68 (e_T 56 (e_T 52 (e_T 47 (e_L 47 (0, ei_load 6 2 49, 0, 0)) (e_T 49 (e_L 49 (0, ei_getf eft elay 0 1 52, 0, 0)) (e_L 52 (0, ei_load 8 0 54, 0, 0)))) (e_T 54 (e_L 54 (0, ei_push (0, 1) 55, 0, 0)) (e_T 55 (e_L 55 (0, ei_bin eF_add 56, 0, 0)) (e_L 56 (0, ei_ald elay false 57, 0, 0))))) (e_T 61 (e_T 57 (e_L 57 (0, ei_putf eft elay 9 15 0 60, 0, 0)) (e_T 60 (e_L 60 (0, ei_load 0 2 61, 0, 0)) (e_L 61 (0, ei_load 6 2 63, 0, 0)))) (e_T 63 (e_L 63 (0, ei_getf eft elay 0 2 66, 0, 0)) (e_T 66 (e_L 66 (0, ei_load 8 0 68, 0, 0)) (e_L 68 (0, ei_push (0, 1) 69, 0, 0)))))) (e_T 78 (e_T 71 (e_T 69 (e_L 69 (0, ei_bin eF_add 70, 0, 0)) (e_T 70 (e_L 70 (0, ei_ald elay false 71, 0, 0)) (e_L 71 (0, ei_putf eft elay 9 16 0 74, 0, 0)))) (e_T 74 (e_L 74 (0, ei_load 6 2 76, 0, 0)) (e_T 76 (e_L 76 (0, ei_load 8 0 78, 0, 0)) (e_L 78 (2, e_nof, 8, 2))))) (e_T 84 (e_T 81 (e_L 81 (0, ei_load 5 0 83, 0, 0)) (e_T 83 (e_L 83 (0, ei_bin eF_add 84, 0, 0)) (e_L 84 (0, ei_stor 9 0 86, 0, 0)))) (e_T 87 (e_T 86 (e_L 86 (0, ei_load 0 2 87, 0, 0)) (e_L 87 (0, ei_load 6 2 89, 0, 0))) (e_T 89 (e_L 89 (0, ei_load 8 0 91, 0, 0)) (e_L 91 (0, ei_push (0, 2) 92, 0, 0)))))))
set_option maxRecDepth 20000 in
set_option maxHeartbeats 4000000 in
theorem te_171_25_ok : ∀ pc, e_EOq eft cls elay eI n_171 pc (te_171_25 pc) :=
  (e_Tok2
  (e_Tok2
  (e_Tok2
  (e_Tok2
  (e_Lok (ld_aload_6 (x_dk dn_171_0_1_ok 0 rfl)))
  (e_Tok2
  (e_Lok (lk_9_61g ho_171 (x_dk dn_171_0_1_ok 1 rfl)))
  (e_Lok (ld_iload_8 (x_dk dn_171_0_1_ok 2 rfl)))))
  (e_Tok2
  (e_Lok (ps_iconst_1 (x_dk dn_171_0_1_ok 3 rfl)))
  (e_Tok2
  (e_Lok (sm_iadd (x_dk dn_171_0_1_ok 4 rfl)))
  (e_Lok (sm_iaload (x_dk dn_171_0_1_ok 5 rfl))))))
  (e_Tok2
  (e_Tok2
  (e_Lok (lk_9_87p ho_171 (x_dk dn_171_0_1_ok 6 rfl)))
  (e_Tok2
  (e_Lok (ld_aload_n_0 (x_dk dn_171_0_1_ok 7 rfl)))
  (e_Lok (ld_aload_6 (x_dk dn_171_0_1_ok 8 rfl)))))
  (e_Tok2
  (e_Lok (lk_9_66g ho_171 (x_dk dn_171_0_1_ok 9 rfl)))
  (e_Tok2
  (e_Lok (ld_iload_8 (x_dk dn_171_0_1_ok 10 rfl)))
  (e_Lok (ps_iconst_1 (x_dk dn_171_0_1_ok 11 rfl)))))))
  (e_Tok2
  (e_Tok2
  (e_Tok2
  (e_Lok (sm_iadd (x_dk dn_171_0_1_ok 12 rfl)))
  (e_Tok2
  (e_Lok (sm_iaload (x_dk dn_171_0_1_ok 13 rfl)))
  (e_Lok (lk_9_90p ho_171 (x_dk dn_171_0_1_ok 14 rfl)))))
  (e_Tok2
  (e_Lok (ld_aload_6 (x_dk dn_171_0_1_ok 15 rfl)))
  (e_Tok2
  (e_Lok (ld_iload_8 (x_dk dn_171_0_1_ok 16 rfl)))
  (e_Lok (lk_9_93 ho_171 (x_dk dn_171_0_1_ok 17 rfl))))))
  (e_Tok2
  (e_Tok2
  (e_Lok (ld_iload_5 (x_dk dn_171_0_1_ok 18 rfl)))
  (e_Tok2
  (e_Lok (sm_iadd (x_dk dn_171_0_1_ok 19 rfl)))
  (e_Lok (e_st (I := eI) (er_istore (i := 9) (x_dk dn_171_0_1_ok 20 rfl) (by decide +kernel)) nx_stor))))
  (e_Tok2
  (e_Tok2
  (e_Lok (ld_aload_n_0 (x_dk dn_171_0_1_ok 21 rfl)))
  (e_Lok (ld_aload_6 (x_dk dn_171_0_1_ok 22 rfl))))
  (e_Tok2
  (e_Lok (ld_iload_8 (x_dk dn_171_0_1_ok 23 rfl)))
  (e_Lok (ps_iconst_2 (x_dk dn_171_0_1_ok 24 rfl))))))))
def te_171_50 : Nat → eE := (e_T 112 (e_T 102 (e_T 95 (e_T 92 (e_L 92 (0, ei_bin eF_add 93, 0, 0)) (e_T 93 (e_L 93 (0, ei_load 9 0 95, 0, 0)) (e_L 95 (2, e_nof, 172, 4)))) (e_T 98 (e_L 98 (0, ei_if1 0 103 101, 0, 0)) (e_T 101 (e_L 101 (0, ei_push (0, 1) 102, 0, 0)) (e_L 102 (1, e_nof, 4, 0))))) (e_T 106 (e_T 103 (e_L 103 (0, ei_push (0, 0) 104, 0, 0)) (e_T 104 (e_L 104 (0, ei_stor 10 0 106, 0, 0)) (e_L 106 (0, ei_load 10 0 108, 0, 0)))) (e_T 108 (e_L 108 (0, ei_load 0 2 109, 0, 0)) (e_T 109 (e_L 109 (0, ei_getf eft elay 9 0 112, 0, 0)) (e_L 112 (0, ei_if2 3 146 115, 0, 0)))))) (e_T 127 (e_T 119 (e_T 115 (e_L 115 (0, ei_load 6 2 117, 0, 0)) (e_T 117 (e_L 117 (0, ei_load 8 0 119, 0, 0)) (e_L 119 (0, ei_load 10 0 121, 0, 0)))) (e_T 121 (e_L 121 (2, e_nof, 6, 3)) (e_T 124 (e_L 124 (0, ei_if1 1 140 127, 0, 0)) (e_L 127 (0, ei_load 0 2 128, 0, 0))))) (e_T 132 (e_T 128 (e_L 128 (0, ei_load 10 0 130, 0, 0)) (e_T 130 (e_L 130 (0, ei_load 9 0 132, 0, 0)) (e_L 132 (2, e_nof, 173, 3)))) (e_T 138 (e_T 135 (e_L 135 (0, ei_if1 0 140 138, 0, 0)) (e_L 138 (0, ei_push (0, 1) 139, 0, 0))) (e_T 139 (e_L 139 (1, e_nof, 4, 0)) (e_L 140 (0, ei_inc 10 1 143, 0, 0)))))))
set_option maxRecDepth 20000 in
set_option maxHeartbeats 4000000 in
theorem te_171_50_ok : ∀ pc, e_EOq eft cls elay eI n_171 pc (te_171_50 pc) :=
  (e_Tok2
  (e_Tok2
  (e_Tok2
  (e_Tok2
  (e_Lok (sm_iadd (x_dk dn_171_0_2_ok 0 rfl)))
  (e_Tok2
  (e_Lok (ld_iload_9 (x_dk dn_171_0_2_ok 1 rfl)))
  (e_Lok (lk_9_97 ho_171 (x_dk dn_171_0_2_ok 2 rfl)))))
  (e_Tok2
  (e_Lok (e_st (I := eI) (er_ifeq (off := 5) (tg := 103) (x_dk dn_171_0_2_ok 3 rfl) (by decide)) nx_if1))
  (e_Tok2
  (e_Lok (ps_iconst_1 (x_dk dn_171_0_2_ok 4 rfl)))
  (e_Lok (e_rt (I := eI) (k := 4) ⟨(x_dk dn_171_0_2_ok 5 rfl), rfl⟩)))))
  (e_Tok2
  (e_Tok2
  (e_Lok (ps_iconst_0 (x_dk dn_171_0_2_ok 6 rfl)))
  (e_Tok2
  (e_Lok (e_st (I := eI) (er_istore (i := 10) (x_dk dn_171_0_2_ok 7 rfl) (by decide +kernel)) nx_stor))
  (e_Lok (ld_iload_10 (x_dk dn_171_0_2_ok 8 rfl)))))
  (e_Tok2
  (e_Lok (ld_aload_n_0 (x_dk dn_171_0_2_ok 9 rfl)))
  (e_Tok2
  (e_Lok (lk_9_45g ho_171 (x_dk dn_171_0_2_ok 10 rfl)))
  (e_Lok (e_st (I := eI) (er_icmpge (off := 34) (tg := 146) (x_dk dn_171_0_2_ok 11 rfl) (by decide)) nx_if2))))))
  (e_Tok2
  (e_Tok2
  (e_Tok2
  (e_Lok (ld_aload_6 (x_dk dn_171_0_2_ok 12 rfl)))
  (e_Tok2
  (e_Lok (ld_iload_8 (x_dk dn_171_0_2_ok 13 rfl)))
  (e_Lok (ld_iload_10 (x_dk dn_171_0_2_ok 14 rfl)))))
  (e_Tok2
  (e_Lok (lk_9_101 ho_171 (x_dk dn_171_0_2_ok 15 rfl)))
  (e_Tok2
  (e_Lok (e_st (I := eI) (er_ifne (off := 16) (tg := 140) (x_dk dn_171_0_2_ok 16 rfl) (by decide)) nx_if1))
  (e_Lok (ld_aload_n_0 (x_dk dn_171_0_2_ok 17 rfl))))))
  (e_Tok2
  (e_Tok2
  (e_Lok (ld_iload_10 (x_dk dn_171_0_2_ok 18 rfl)))
  (e_Tok2
  (e_Lok (ld_iload_9 (x_dk dn_171_0_2_ok 19 rfl)))
  (e_Lok (lk_9_105 ho_171 (x_dk dn_171_0_2_ok 20 rfl)))))
  (e_Tok2
  (e_Tok2
  (e_Lok (e_st (I := eI) (er_ifeq (off := 5) (tg := 140) (x_dk dn_171_0_2_ok 21 rfl) (by decide)) nx_if1))
  (e_Lok (ps_iconst_1 (x_dk dn_171_0_2_ok 22 rfl))))
  (e_Tok2
  (e_Lok (e_rt (I := eI) (k := 4) ⟨(x_dk dn_171_0_2_ok 23 rfl), rfl⟩))
  (e_Lok (e_st (I := eI) (er_iinc (i := 10) (n := 1) (x_dk dn_171_0_2_ok 24 rfl) (by decide +kernel) (by decide)) nx_inc)))))))
def te_171_75 : Nat → eE := (e_T 164 (e_T 153 (e_T 148 (e_T 143 (e_L 143 (0, ei_goto 106, 0, 0)) (e_T 146 (e_L 146 (0, ei_load 4 0 148, 0, 0)) (e_L 148 (0, ei_stor 10 0 150, 0, 0)))) (e_T 150 (e_L 150 (0, ei_load 10 0 152, 0, 0)) (e_T 152 (e_L 152 (0, ei_load 2 0 153, 0, 0)) (e_L 153 (0, ei_if2 3 184 156, 0, 0))))) (e_T 159 (e_T 156 (e_L 156 (0, ei_load 10 0 158, 0, 0)) (e_T 158 (e_L 158 (0, ei_load 3 0 159, 0, 0)) (e_L 159 (0, ei_if2 0 178 162, 0, 0)))) (e_T 162 (e_L 162 (0, ei_load 0 2 163, 0, 0)) (e_T 163 (e_L 163 (0, ei_load 1 2 164, 0, 0)) (e_L 164 (0, ei_load 10 0 166, 0, 0)))))) (e_T 176 (e_T 168 (e_T 166 (e_L 166 (0, ei_aald elay 167, 0, 0)) (e_T 167 (e_L 167 (0, ei_push (0, 0) 168, 0, 0)) (e_L 168 (0, ei_load 9 0 170, 0, 0)))) (e_T 170 (e_L 170 (2, e_nof, 172, 4)) (e_T 173 (e_L 173 (0, ei_if1 0 178 176, 0, 0)) (e_L 176 (0, ei_push (0, 1) 177, 0, 0))))) (e_T 181 (e_T 177 (e_L 177 (1, e_nof, 4, 0)) (e_T 178 (e_L 178 (0, ei_inc 10 1 181, 0, 0)) (e_L 181 (0, ei_goto 150, 0, 0)))) (e_T 187 (e_T 184 (e_L 184 (0, ei_inc 8 1 187, 0, 0)) (e_L 187 (0, ei_goto 15, 0, 0))) (e_T 190 (e_L 190 (0, ei_push (0, 0) 191, 0, 0)) (e_L 191 (1, e_nof, 4, 0)))))))
set_option maxRecDepth 20000 in
set_option maxHeartbeats 4000000 in
theorem te_171_75_ok : ∀ pc, e_EOq eft cls elay eI n_171 pc (te_171_75 pc) :=
  (e_Tok2
  (e_Tok2
  (e_Tok2
  (e_Tok2
  (e_Lok (e_st (I := eI) (er_goto (off := (-37)) (tg := 106) (x_dk dn_171_0_3_ok 0 rfl) (by decide)) nx_goto))
  (e_Tok2
  (e_Lok (ld_iload_4 (x_dk dn_171_0_3_ok 1 rfl)))
  (e_Lok (e_st (I := eI) (er_istore (i := 10) (x_dk dn_171_0_3_ok 2 rfl) (by decide +kernel)) nx_stor))))
  (e_Tok2
  (e_Lok (ld_iload_10 (x_dk dn_171_0_3_ok 3 rfl)))
  (e_Tok2
  (e_Lok (ld_iload_n_2 (x_dk dn_171_0_3_ok 4 rfl)))
  (e_Lok (e_st (I := eI) (er_icmpge (off := 31) (tg := 184) (x_dk dn_171_0_3_ok 5 rfl) (by decide)) nx_if2)))))
  (e_Tok2
  (e_Tok2
  (e_Lok (ld_iload_10 (x_dk dn_171_0_3_ok 6 rfl)))
  (e_Tok2
  (e_Lok (ld_iload_n_3 (x_dk dn_171_0_3_ok 7 rfl)))
  (e_Lok (e_st (I := eI) (er_icmpeq (off := 19) (tg := 178) (x_dk dn_171_0_3_ok 8 rfl) (by decide)) nx_if2))))
  (e_Tok2
  (e_Lok (ld_aload_n_0 (x_dk dn_171_0_3_ok 9 rfl)))
  (e_Tok2
  (e_Lok (ld_aload_n_1 (x_dk dn_171_0_3_ok 10 rfl)))
  (e_Lok (ld_iload_10 (x_dk dn_171_0_3_ok 11 rfl)))))))
  (e_Tok2
  (e_Tok2
  (e_Tok2
  (e_Lok (e_st (I := eI) (er_aaload (x_dk dn_171_0_3_ok 12 rfl)) nx_aald))
  (e_Tok2
  (e_Lok (ps_iconst_0 (x_dk dn_171_0_3_ok 13 rfl)))
  (e_Lok (ld_iload_9 (x_dk dn_171_0_3_ok 14 rfl)))))
  (e_Tok2
  (e_Lok (lk_9_97 ho_171 (x_dk dn_171_0_3_ok 15 rfl)))
  (e_Tok2
  (e_Lok (e_st (I := eI) (er_ifeq (off := 5) (tg := 178) (x_dk dn_171_0_3_ok 16 rfl) (by decide)) nx_if1))
  (e_Lok (ps_iconst_1 (x_dk dn_171_0_3_ok 17 rfl))))))
  (e_Tok2
  (e_Tok2
  (e_Lok (e_rt (I := eI) (k := 4) ⟨(x_dk dn_171_0_3_ok 18 rfl), rfl⟩))
  (e_Tok2
  (e_Lok (e_st (I := eI) (er_iinc (i := 10) (n := 1) (x_dk dn_171_0_3_ok 19 rfl) (by decide +kernel) (by decide)) nx_inc))
  (e_Lok (e_st (I := eI) (er_goto (off := (-31)) (tg := 150) (x_dk dn_171_0_3_ok 20 rfl) (by decide)) nx_goto))))
  (e_Tok2
  (e_Tok2
  (e_Lok (e_st (I := eI) (er_iinc (i := 8) (n := 1) (x_dk dn_171_0_3_ok 21 rfl) (by decide +kernel) (by decide)) nx_inc))
  (e_Lok (e_st (I := eI) (er_goto (off := (-172)) (tg := 15) (x_dk dn_171_0_3_ok 22 rfl) (by decide)) nx_goto)))
  (e_Tok2
  (e_Lok (ps_iconst_0 (x_dk dn_171_0_3_ok 23 rfl)))
  (e_Lok (e_rt (I := eI) (k := 4) ⟨(x_dk dn_171_0_3_ok 24 rfl), rfl⟩)))))))
def te_171 : Nat → eE := (e_T 91 (e_T 46 te_171_0 te_171_25) (e_T 140 te_171_50 te_171_75))
theorem te_171_ok : ∀ pc, e_EOq eft cls elay eI n_171 pc (te_171 pc) := (e_Tok2 ((e_Tok2 (te_171_0_ok) (te_171_25_ok))) ((e_Tok2 (te_171_50_ok) (te_171_75_ok))))
theorem ho_172 : (xm_y n_172).cls = "RobotCellHouse$Shapes" := rfl
def dn_172_0_0 : List (Nat × Instr × Nat) := [(0, .iload_n 2, 1), (1, .istore 4, 2), (3, .iload 4, 2), (5, .aload_n 1, 1), (6, .invokevirtual 77, 3), (9, .if_icmp .ge 62, 3), (12, .iload_n 3, 1), (13, .aload_n 1, 1), (14, .iload 4, 2), (16, .invokevirtual 93, 3), (19, .iadd, 1), (20, .istore 5, 2), (22, .aload_n 0, 1), (23, .aload_n 1, 1), (24, .getfield 61, 3), (27, .iload 4, 2), (29, .iaload, 1), (30, .aload_n 1, 1), (31, .getfield 66, 3), (34, .iload 4, 2), (36, .iaload, 1), (37, .aload_n 1, 1), (38, .getfield 61, 3), (41, .iload 4, 2), (43, .iconst 1, 1)]
set_option maxRecDepth 20000 in
theorem dn_172_0_0_ok : dn_172_0_0.all (fun q => decide (decode (xm_b n_172) q.1 = .ok (q.2.1, q.2.2))) = true := xa_g_ok (by decide +kernel)
def dn_172_0_1 : List (Nat × Instr × Nat) := [(44, .iadd, 1), (45, .iaload, 1), (46, .aload_n 1, 1), (47, .getfield 66, 3), (50, .iload 4, 2), (52, .iconst 1, 1), (53, .iadd, 1), (54, .iaload, 1), (55, .iload 5, 2), (57, .invokevirtual 108, 3), (60, .ifCond .eq 5, 3), (63, .iconst 1, 1), (64, .ireturn, 1), (65, .iinc 4 1, 3), (68, .goto (-65), 3), (71, .iconst 0, 1), (72, .ireturn, 1)]
set_option maxRecDepth 20000 in
theorem dn_172_0_1_ok : dn_172_0_1.all (fun q => decide (decode (xm_b n_172) q.1 = .ok (q.2.1, q.2.2))) = true := xa_g_ok (by decide +kernel)
def te_172_0 : Nat → eE := (e_T 16 (e_T 6 (e_T 1 (e_T 0 (e_L 0 (0, ei_load 2 0 1, 0, 0)) (e_L 1 (0, ei_stor 4 0 3, 0, 0))) (e_T 3 (e_L 3 (0, ei_load 4 0 5, 0, 0)) (e_T 5 (e_L 5 (0, ei_load 1 2 6, 0, 0)) (e_L 6 (2, e_nof, 7, 1))))) (e_T 12 (e_T 9 (e_L 9 (0, ei_if2 3 71 12, 0, 0)) (e_L 12 (0, ei_load 3 0 13, 0, 0))) (e_T 13 (e_L 13 (0, ei_load 1 2 14, 0, 0)) (e_T 14 (e_L 14 (0, ei_load 4 0 16, 0, 0)) (e_L 16 (2, e_nof, 8, 2)))))) (e_T 24 (e_T 20 (e_T 19 (e_L 19 (0, ei_bin eF_add 20, 0, 0)) (e_L 20 (0, ei_stor 5 0 22, 0, 0))) (e_T 22 (e_L 22 (0, ei_load 0 2 23, 0, 0)) (e_T 23 (e_L 23 (0, ei_load 1 2 24, 0, 0)) (e_L 24 (0, ei_getf eft elay 0 1 27, 0, 0))))) (e_T 30 (e_T 27 (e_L 27 (0, ei_load 4 0 29, 0, 0)) (e_T 29 (e_L 29 (0, ei_ald elay false 30, 0, 0)) (e_L 30 (0, ei_load 1 2 31, 0, 0)))) (e_T 31 (e_L 31 (0, ei_getf eft elay 0 2 34, 0, 0)) (e_T 34 (e_L 34 (0, ei_load 4 0 36, 0, 0)) (e_L 36 (0, ei_ald elay false 37, 0, 0)))))))
set_option maxRecDepth 20000 in
set_option maxHeartbeats 4000000 in
theorem te_172_0_ok : ∀ pc, e_EOq eft cls elay eI n_172 pc (te_172_0 pc) :=
  (e_Tok2
  (e_Tok2
  (e_Tok2
  (e_Tok2
  (e_Lok (ld_iload_n_2 (x_dk dn_172_0_0_ok 0 rfl)))
  (e_Lok (e_st (I := eI) (er_istore (i := 4) (x_dk dn_172_0_0_ok 1 rfl) (by decide +kernel)) nx_stor)))
  (e_Tok2
  (e_Lok (ld_iload_4 (x_dk dn_172_0_0_ok 2 rfl)))
  (e_Tok2
  (e_Lok (ld_aload_n_1 (x_dk dn_172_0_0_ok 3 rfl)))
  (e_Lok (lk_9_77 ho_172 (x_dk dn_172_0_0_ok 4 rfl))))))
  (e_Tok2
  (e_Tok2
  (e_Lok (e_st (I := eI) (er_icmpge (off := 62) (tg := 71) (x_dk dn_172_0_0_ok 5 rfl) (by decide)) nx_if2))
  (e_Lok (ld_iload_n_3 (x_dk dn_172_0_0_ok 6 rfl))))
  (e_Tok2
  (e_Lok (ld_aload_n_1 (x_dk dn_172_0_0_ok 7 rfl)))
  (e_Tok2
  (e_Lok (ld_iload_4 (x_dk dn_172_0_0_ok 8 rfl)))
  (e_Lok (lk_9_93 ho_172 (x_dk dn_172_0_0_ok 9 rfl)))))))
  (e_Tok2
  (e_Tok2
  (e_Tok2
  (e_Lok (sm_iadd (x_dk dn_172_0_0_ok 10 rfl)))
  (e_Lok (e_st (I := eI) (er_istore (i := 5) (x_dk dn_172_0_0_ok 11 rfl) (by decide +kernel)) nx_stor)))
  (e_Tok2
  (e_Lok (ld_aload_n_0 (x_dk dn_172_0_0_ok 12 rfl)))
  (e_Tok2
  (e_Lok (ld_aload_n_1 (x_dk dn_172_0_0_ok 13 rfl)))
  (e_Lok (lk_9_61g ho_172 (x_dk dn_172_0_0_ok 14 rfl))))))
  (e_Tok2
  (e_Tok2
  (e_Lok (ld_iload_4 (x_dk dn_172_0_0_ok 15 rfl)))
  (e_Tok2
  (e_Lok (sm_iaload (x_dk dn_172_0_0_ok 16 rfl)))
  (e_Lok (ld_aload_n_1 (x_dk dn_172_0_0_ok 17 rfl)))))
  (e_Tok2
  (e_Lok (lk_9_66g ho_172 (x_dk dn_172_0_0_ok 18 rfl)))
  (e_Tok2
  (e_Lok (ld_iload_4 (x_dk dn_172_0_0_ok 19 rfl)))
  (e_Lok (sm_iaload (x_dk dn_172_0_0_ok 20 rfl))))))))
def te_172_21 : Nat → eE := (e_T 52 (e_T 44 (e_T 38 (e_T 37 (e_L 37 (0, ei_load 1 2 38, 0, 0)) (e_L 38 (0, ei_getf eft elay 0 1 41, 0, 0))) (e_T 41 (e_L 41 (0, ei_load 4 0 43, 0, 0)) (e_T 43 (e_L 43 (0, ei_push (0, 1) 44, 0, 0)) (e_L 44 (0, ei_bin eF_add 45, 0, 0))))) (e_T 46 (e_T 45 (e_L 45 (0, ei_ald elay false 46, 0, 0)) (e_L 46 (0, ei_load 1 2 47, 0, 0))) (e_T 47 (e_L 47 (0, ei_getf eft elay 0 2 50, 0, 0)) (e_T 50 (e_L 50 (0, ei_load 4 0 52, 0, 0)) (e_L 52 (0, ei_push (0, 1) 53, 0, 0)))))) (e_T 60 (e_T 54 (e_T 53 (e_L 53 (0, ei_bin eF_add 54, 0, 0)) (e_L 54 (0, ei_ald elay false 55, 0, 0))) (e_T 55 (e_L 55 (0, ei_load 5 0 57, 0, 0)) (e_T 57 (e_L 57 (2, e_nof, 175, 6)) (e_L 60 (0, ei_if1 0 65 63, 0, 0))))) (e_T 65 (e_T 63 (e_L 63 (0, ei_push (0, 1) 64, 0, 0)) (e_T 64 (e_L 64 (1, e_nof, 4, 0)) (e_L 65 (0, ei_inc 4 1 68, 0, 0)))) (e_T 68 (e_L 68 (0, ei_goto 3, 0, 0)) (e_T 71 (e_L 71 (0, ei_push (0, 0) 72, 0, 0)) (e_L 72 (1, e_nof, 4, 0)))))))
set_option maxRecDepth 20000 in
set_option maxHeartbeats 4000000 in
theorem te_172_21_ok : ∀ pc, e_EOq eft cls elay eI n_172 pc (te_172_21 pc) :=
  (e_Tok2
  (e_Tok2
  (e_Tok2
  (e_Tok2
  (e_Lok (ld_aload_n_1 (x_dk dn_172_0_0_ok 21 rfl)))
  (e_Lok (lk_9_61g ho_172 (x_dk dn_172_0_0_ok 22 rfl))))
  (e_Tok2
  (e_Lok (ld_iload_4 (x_dk dn_172_0_0_ok 23 rfl)))
  (e_Tok2
  (e_Lok (ps_iconst_1 (x_dk dn_172_0_0_ok 24 rfl)))
  (e_Lok (sm_iadd (x_dk dn_172_0_1_ok 0 rfl))))))
  (e_Tok2
  (e_Tok2
  (e_Lok (sm_iaload (x_dk dn_172_0_1_ok 1 rfl)))
  (e_Lok (ld_aload_n_1 (x_dk dn_172_0_1_ok 2 rfl))))
  (e_Tok2
  (e_Lok (lk_9_66g ho_172 (x_dk dn_172_0_1_ok 3 rfl)))
  (e_Tok2
  (e_Lok (ld_iload_4 (x_dk dn_172_0_1_ok 4 rfl)))
  (e_Lok (ps_iconst_1 (x_dk dn_172_0_1_ok 5 rfl)))))))
  (e_Tok2
  (e_Tok2
  (e_Tok2
  (e_Lok (sm_iadd (x_dk dn_172_0_1_ok 6 rfl)))
  (e_Lok (sm_iaload (x_dk dn_172_0_1_ok 7 rfl))))
  (e_Tok2
  (e_Lok (ld_iload_5 (x_dk dn_172_0_1_ok 8 rfl)))
  (e_Tok2
  (e_Lok (lk_9_108 ho_172 (x_dk dn_172_0_1_ok 9 rfl)))
  (e_Lok (e_st (I := eI) (er_ifeq (off := 5) (tg := 65) (x_dk dn_172_0_1_ok 10 rfl) (by decide)) nx_if1)))))
  (e_Tok2
  (e_Tok2
  (e_Lok (ps_iconst_1 (x_dk dn_172_0_1_ok 11 rfl)))
  (e_Tok2
  (e_Lok (e_rt (I := eI) (k := 4) ⟨(x_dk dn_172_0_1_ok 12 rfl), rfl⟩))
  (e_Lok (e_st (I := eI) (er_iinc (i := 4) (n := 1) (x_dk dn_172_0_1_ok 13 rfl) (by decide +kernel) (by decide)) nx_inc))))
  (e_Tok2
  (e_Lok (e_st (I := eI) (er_goto (off := (-65)) (tg := 3) (x_dk dn_172_0_1_ok 14 rfl) (by decide)) nx_goto))
  (e_Tok2
  (e_Lok (ps_iconst_0 (x_dk dn_172_0_1_ok 15 rfl)))
  (e_Lok (e_rt (I := eI) (k := 4) ⟨(x_dk dn_172_0_1_ok 16 rfl), rfl⟩)))))))
def te_172 : Nat → eE := (e_T 36 te_172_0 te_172_21)
theorem te_172_ok : ∀ pc, e_EOq eft cls elay eI n_172 pc (te_172 pc) := (e_Tok2 (te_172_0_ok) (te_172_21_ok))
theorem ho_173 : (xm_y n_173).cls = "RobotCellHouse$Shapes" := rfl
def dn_173_0_0 : List (Nat × Instr × Nat) := [(0, .aload_n 0, 1), (1, .getfield 9, 3), (4, .iload_n 1, 1), (5, .iaload, 1), (6, .istore_n 3, 1), (7, .aload_n 0, 1), (8, .getfield 15, 3), (11, .iload_n 1, 1), (12, .iaload, 1), (13, .istore 4, 2), (15, .aload_n 0, 1), (16, .getfield 24, 3), (19, .iload_n 1, 1), (20, .iaload, 1), (21, .iconst (-1), 1), (22, .if_icmp .eq 22, 3), (25, .aload_n 0, 1), (26, .iload_n 3, 1), (27, .iload 4, 2), (29, .iload_n 3, 1), (30, .iload 4, 2), (32, .iload_n 2, 1), (33, .aload_n 0, 1), (34, .getfield 24, 3), (37, .iload_n 1, 1)]
set_option maxRecDepth 20000 in
theorem dn_173_0_0_ok : dn_173_0_0.all (fun q => decide (decode (xm_b n_173) q.1 = .ok (q.2.1, q.2.2))) = true := xa_g_ok (by decide +kernel)
def dn_173_0_1 : List (Nat × Instr × Nat) := [(38, .iaload, 1), (39, .iadd, 1), (40, .invokevirtual 108, 3), (43, .ireturn, 1), (44, .iload_n 3, 1), (45, .aload_n 0, 1), (46, .getfield 18, 3), (49, .iload_n 1, 1), (50, .iaload, 1), (51, .iadd, 1), (52, .istore 5, 2), (54, .iload 4, 2), (56, .aload_n 0, 1), (57, .getfield 21, 3), (60, .iload_n 1, 1), (61, .iaload, 1), (62, .iadd, 1), (63, .istore 6, 2), (65, .aload_n 0, 1), (66, .iload_n 3, 1), (67, .iload 4, 2), (69, .iload 5, 2), (71, .iload 6, 2), (73, .iload_n 2, 1), (74, .invokevirtual 112, 3)]
set_option maxRecDepth 20000 in
theorem dn_173_0_1_ok : dn_173_0_1.all (fun q => decide (decode (xm_b n_173) q.1 = .ok (q.2.1, q.2.2))) = true := xa_g_ok (by decide +kernel)
def dn_173_0_2 : List (Nat × Instr × Nat) := [(77, .ifCond .eq 5, 3), (80, .iconst 0, 1), (81, .ireturn, 1), (82, .aload_n 0, 1), (83, .getfield 81, 3), (86, .iload_n 3, 1), (87, .iload 5, 2), (89, .invokestatic 62, 3), (92, .ifCond .eq 19, 3), (95, .aload_n 0, 1), (96, .getfield 84, 3), (99, .iload 4, 2), (101, .iload 6, 2), (103, .invokestatic 62, 3), (106, .ifCond .eq 5, 3), (109, .iconst 1, 1), (110, .ireturn, 1), (111, .aload_n 0, 1), (112, .iload_n 3, 1), (113, .iload 4, 2), (115, .iload 5, 2), (117, .iload 4, 2), (119, .iload_n 2, 1), (120, .invokevirtual 108, 3), (123, .ifCond .ne 48, 3)]
set_option maxRecDepth 20000 in
theorem dn_173_0_2_ok : dn_173_0_2.all (fun q => decide (decode (xm_b n_173) q.1 = .ok (q.2.1, q.2.2))) = true := xa_g_ok (by decide +kernel)
def dn_173_0_3 : List (Nat × Instr × Nat) := [(126, .aload_n 0, 1), (127, .iload_n 3, 1), (128, .iload 6, 2), (130, .iload 5, 2), (132, .iload 6, 2), (134, .iload_n 2, 1), (135, .invokevirtual 108, 3), (138, .ifCond .ne 33, 3), (141, .aload_n 0, 1), (142, .iload_n 3, 1), (143, .iload 4, 2), (145, .iload_n 3, 1), (146, .iload 6, 2), (148, .iload_n 2, 1), (149, .invokevirtual 108, 3), (152, .ifCond .ne 19, 3), (155, .aload_n 0, 1), (156, .iload 5, 2), (158, .iload 4, 2), (160, .iload 5, 2), (162, .iload 6, 2), (164, .iload_n 2, 1), (165, .invokevirtual 108, 3), (168, .ifCond .eq 7, 3), (171, .iconst 1, 1)]
set_option maxRecDepth 20000 in
theorem dn_173_0_3_ok : dn_173_0_3.all (fun q => decide (decode (xm_b n_173) q.1 = .ok (q.2.1, q.2.2))) = true := xa_g_ok (by decide +kernel)
def dn_173_1_0 : List (Nat × Instr × Nat) := [(172, .goto 4, 3), (175, .iconst 0, 1), (176, .ireturn, 1)]
set_option maxRecDepth 20000 in
theorem dn_173_1_0_ok : dn_173_1_0.all (fun q => decide (decode (xm_b n_173) q.1 = .ok (q.2.1, q.2.2))) = true := xa_g_ok (by decide +kernel)
def te_173_0 : Nat → eE := (e_T 16 (e_T 7 (e_T 4 (e_T 0 (e_L 0 (0, ei_load 0 2 1, 0, 0)) (e_T 1 (e_L 1 (0, ei_getf eft elay 9 2 4, 0, 0)) (e_L 4 (0, ei_load 1 0 5, 0, 0)))) (e_T 5 (e_L 5 (0, ei_ald elay false 6, 0, 0)) (e_T 6 (e_L 6 (0, ei_stor 3 0 7, 0, 0)) (e_L 7 (0, ei_load 0 2 8, 0, 0))))) (e_T 12 (e_T 8 (e_L 8 (0, ei_getf eft elay 9 3 11, 0, 0)) (e_T 11 (e_L 11 (0, ei_load 1 0 12, 0, 0)) (e_L 12 (0, ei_ald elay false 13, 0, 0)))) (e_T 13 (e_L 13 (0, ei_stor 4 0 15, 0, 0)) (e_T 15 (e_L 15 (0, ei_load 0 2 16, 0, 0)) (e_L 16 (0, ei_getf eft elay 9 6 19, 0, 0)))))) (e_T 26 (e_T 21 (e_T 19 (e_L 19 (0, ei_load 1 0 20, 0, 0)) (e_T 20 (e_L 20 (0, ei_ald elay false 21, 0, 0)) (e_L 21 (0, ei_push (0, (-1)) 22, 0, 0)))) (e_T 22 (e_L 22 (0, ei_if2 0 44 25, 0, 0)) (e_T 25 (e_L 25 (0, ei_load 0 2 26, 0, 0)) (e_L 26 (0, ei_load 3 0 27, 0, 0))))) (e_T 30 (e_T 27 (e_L 27 (0, ei_load 4 0 29, 0, 0)) (e_T 29 (e_L 29 (0, ei_load 3 0 30, 0, 0)) (e_L 30 (0, ei_load 4 0 32, 0, 0)))) (e_T 33 (e_T 32 (e_L 32 (0, ei_load 2 0 33, 0, 0)) (e_L 33 (0, ei_load 0 2 34, 0, 0))) (e_T 34 (e_L 34 (0, ei_getf eft elay 9 6 37, 0, 0)) (e_L 37 (0, ei_load 1 0 38, 0, 0)))))))
set_option maxRecDepth 20000 in
set_option maxHeartbeats 4000000 in
theorem te_173_0_ok : ∀ pc, e_EOq eft cls elay eI n_173 pc (te_173_0 pc) :=
  (e_Tok2
  (e_Tok2
  (e_Tok2
  (e_Tok2
  (e_Lok (ld_aload_n_0 (x_dk dn_173_0_0_ok 0 rfl)))
  (e_Tok2
  (e_Lok (lk_9_9g ho_173 (x_dk dn_173_0_0_ok 1 rfl)))
  (e_Lok (ld_iload_n_1 (x_dk dn_173_0_0_ok 2 rfl)))))
  (e_Tok2
  (e_Lok (sm_iaload (x_dk dn_173_0_0_ok 3 rfl)))
  (e_Tok2
  (e_Lok (e_st (I := eI) (er_istore_n (i := 3) (x_dk dn_173_0_0_ok 4 rfl) (by decide +kernel)) nx_stor))
  (e_Lok (ld_aload_n_0 (x_dk dn_173_0_0_ok 5 rfl))))))
  (e_Tok2
  (e_Tok2
  (e_Lok (lk_9_15g ho_173 (x_dk dn_173_0_0_ok 6 rfl)))
  (e_Tok2
  (e_Lok (ld_iload_n_1 (x_dk dn_173_0_0_ok 7 rfl)))
  (e_Lok (sm_iaload (x_dk dn_173_0_0_ok 8 rfl)))))
  (e_Tok2
  (e_Lok (e_st (I := eI) (er_istore (i := 4) (x_dk dn_173_0_0_ok 9 rfl) (by decide +kernel)) nx_stor))
  (e_Tok2
  (e_Lok (ld_aload_n_0 (x_dk dn_173_0_0_ok 10 rfl)))
  (e_Lok (lk_9_24g ho_173 (x_dk dn_173_0_0_ok 11 rfl)))))))
  (e_Tok2
  (e_Tok2
  (e_Tok2
  (e_Lok (ld_iload_n_1 (x_dk dn_173_0_0_ok 12 rfl)))
  (e_Tok2
  (e_Lok (sm_iaload (x_dk dn_173_0_0_ok 13 rfl)))
  (e_Lok (ps_iconst_m1 (x_dk dn_173_0_0_ok 14 rfl)))))
  (e_Tok2
  (e_Lok (e_st (I := eI) (er_icmpeq (off := 22) (tg := 44) (x_dk dn_173_0_0_ok 15 rfl) (by decide)) nx_if2))
  (e_Tok2
  (e_Lok (ld_aload_n_0 (x_dk dn_173_0_0_ok 16 rfl)))
  (e_Lok (ld_iload_n_3 (x_dk dn_173_0_0_ok 17 rfl))))))
  (e_Tok2
  (e_Tok2
  (e_Lok (ld_iload_4 (x_dk dn_173_0_0_ok 18 rfl)))
  (e_Tok2
  (e_Lok (ld_iload_n_3 (x_dk dn_173_0_0_ok 19 rfl)))
  (e_Lok (ld_iload_4 (x_dk dn_173_0_0_ok 20 rfl)))))
  (e_Tok2
  (e_Tok2
  (e_Lok (ld_iload_n_2 (x_dk dn_173_0_0_ok 21 rfl)))
  (e_Lok (ld_aload_n_0 (x_dk dn_173_0_0_ok 22 rfl))))
  (e_Tok2
  (e_Lok (lk_9_24g ho_173 (x_dk dn_173_0_0_ok 23 rfl)))
  (e_Lok (ld_iload_n_1 (x_dk dn_173_0_0_ok 24 rfl))))))))
def te_173_25 : Nat → eE := (e_T 56 (e_T 45 (e_T 40 (e_T 38 (e_L 38 (0, ei_ald elay false 39, 0, 0)) (e_T 39 (e_L 39 (0, ei_bin eF_add 40, 0, 0)) (e_L 40 (2, e_nof, 175, 6)))) (e_T 43 (e_L 43 (1, e_nof, 4, 0)) (e_T 44 (e_L 44 (0, ei_load 3 0 45, 0, 0)) (e_L 45 (0, ei_load 0 2 46, 0, 0))))) (e_T 50 (e_T 46 (e_L 46 (0, ei_getf eft elay 9 4 49, 0, 0)) (e_T 49 (e_L 49 (0, ei_load 1 0 50, 0, 0)) (e_L 50 (0, ei_ald elay false 51, 0, 0)))) (e_T 52 (e_T 51 (e_L 51 (0, ei_bin eF_add 52, 0, 0)) (e_L 52 (0, ei_stor 5 0 54, 0, 0))) (e_T 54 (e_L 54 (0, ei_load 4 0 56, 0, 0)) (e_L 56 (0, ei_load 0 2 57, 0, 0)))))) (e_T 65 (e_T 61 (e_T 57 (e_L 57 (0, ei_getf eft elay 9 5 60, 0, 0)) (e_T 60 (e_L 60 (0, ei_load 1 0 61, 0, 0)) (e_L 61 (0, ei_ald elay false 62, 0, 0)))) (e_T 62 (e_L 62 (0, ei_bin eF_add 63, 0, 0)) (e_T 63 (e_L 63 (0, ei_stor 6 0 65, 0, 0)) (e_L 65 (0, ei_load 0 2 66, 0, 0))))) (e_T 69 (e_T 66 (e_L 66 (0, ei_load 3 0 67, 0, 0)) (e_T 67 (e_L 67 (0, ei_load 4 0 69, 0, 0)) (e_L 69 (0, ei_load 5 0 71, 0, 0)))) (e_T 73 (e_T 71 (e_L 71 (0, ei_load 6 0 73, 0, 0)) (e_L 73 (0, ei_load 2 0 74, 0, 0))) (e_T 74 (e_L 74 (2, e_nof, 174, 6)) (e_L 77 (0, ei_if1 0 82 80, 0, 0)))))))
set_option maxRecDepth 20000 in
set_option maxHeartbeats 4000000 in
theorem te_173_25_ok : ∀ pc, e_EOq eft cls elay eI n_173 pc (te_173_25 pc) :=
  (e_Tok2
  (e_Tok2
  (e_Tok2
  (e_Tok2
  (e_Lok (sm_iaload (x_dk dn_173_0_1_ok 0 rfl)))
  (e_Tok2
  (e_Lok (sm_iadd (x_dk dn_173_0_1_ok 1 rfl)))
  (e_Lok (lk_9_108 ho_173 (x_dk dn_173_0_1_ok 2 rfl)))))
  (e_Tok2
  (e_Lok (e_rt (I := eI) (k := 4) ⟨(x_dk dn_173_0_1_ok 3 rfl), rfl⟩))
  (e_Tok2
  (e_Lok (ld_iload_n_3 (x_dk dn_173_0_1_ok 4 rfl)))
  (e_Lok (ld_aload_n_0 (x_dk dn_173_0_1_ok 5 rfl))))))
  (e_Tok2
  (e_Tok2
  (e_Lok (lk_9_18g ho_173 (x_dk dn_173_0_1_ok 6 rfl)))
  (e_Tok2
  (e_Lok (ld_iload_n_1 (x_dk dn_173_0_1_ok 7 rfl)))
  (e_Lok (sm_iaload (x_dk dn_173_0_1_ok 8 rfl)))))
  (e_Tok2
  (e_Tok2
  (e_Lok (sm_iadd (x_dk dn_173_0_1_ok 9 rfl)))
  (e_Lok (e_st (I := eI) (er_istore (i := 5) (x_dk dn_173_0_1_ok 10 rfl) (by decide +kernel)) nx_stor)))
  (e_Tok2
  (e_Lok (ld_iload_4 (x_dk dn_173_0_1_ok 11 rfl)))
  (e_Lok (ld_aload_n_0 (x_dk dn_173_0_1_ok 12 rfl)))))))
  (e_Tok2
  (e_Tok2
  (e_Tok2
  (e_Lok (lk_9_21g ho_173 (x_dk dn_173_0_1_ok 13 rfl)))
  (e_Tok2
  (e_Lok (ld_iload_n_1 (x_dk dn_173_0_1_ok 14 rfl)))
  (e_Lok (sm_iaload (x_dk dn_173_0_1_ok 15 rfl)))))
  (e_Tok2
  (e_Lok (sm_iadd (x_dk dn_173_0_1_ok 16 rfl)))
  (e_Tok2
  (e_Lok (e_st (I := eI) (er_istore (i := 6) (x_dk dn_173_0_1_ok 17 rfl) (by decide +kernel)) nx_stor))
  (e_Lok (ld_aload_n_0 (x_dk dn_173_0_1_ok 18 rfl))))))
  (e_Tok2
  (e_Tok2
  (e_Lok (ld_iload_n_3 (x_dk dn_173_0_1_ok 19 rfl)))
  (e_Tok2
  (e_Lok (ld_iload_4 (x_dk dn_173_0_1_ok 20 rfl)))
  (e_Lok (ld_iload_5 (x_dk dn_173_0_1_ok 21 rfl)))))
  (e_Tok2
  (e_Tok2
  (e_Lok (ld_iload_6 (x_dk dn_173_0_1_ok 22 rfl)))
  (e_Lok (ld_iload_n_2 (x_dk dn_173_0_1_ok 23 rfl))))
  (e_Tok2
  (e_Lok (lk_9_112 ho_173 (x_dk dn_173_0_1_ok 24 rfl)))
  (e_Lok (e_st (I := eI) (er_ifeq (off := 5) (tg := 82) (x_dk dn_173_0_2_ok 0 rfl) (by decide)) nx_if1)))))))
def te_173_51 : Nat → eE := (e_T 103 (e_T 87 (e_T 82 (e_T 80 (e_L 80 (0, ei_push (0, 0) 81, 0, 0)) (e_T 81 (e_L 81 (1, e_nof, 4, 0)) (e_L 82 (0, ei_load 0 2 83, 0, 0)))) (e_T 83 (e_L 83 (0, ei_getf eft elay 9 13 86, 0, 0)) (e_T 86 (e_L 86 (0, ei_load 3 0 87, 0, 0)) (e_L 87 (0, ei_load 5 0 89, 0, 0))))) (e_T 95 (e_T 89 (e_L 89 (2, e_nof, 242, 3)) (e_T 92 (e_L 92 (0, ei_if1 0 111 95, 0, 0)) (e_L 95 (0, ei_load 0 2 96, 0, 0)))) (e_T 99 (e_T 96 (e_L 96 (0, ei_getf eft elay 9 14 99, 0, 0)) (e_L 99 (0, ei_load 4 0 101, 0, 0))) (e_T 101 (e_L 101 (0, ei_load 6 0 103, 0, 0)) (e_L 103 (2, e_nof, 242, 3)))))) (e_T 113 (e_T 110 (e_T 106 (e_L 106 (0, ei_if1 0 111 109, 0, 0)) (e_T 109 (e_L 109 (0, ei_push (0, 1) 110, 0, 0)) (e_L 110 (1, e_nof, 4, 0)))) (e_T 111 (e_L 111 (0, ei_load 0 2 112, 0, 0)) (e_T 112 (e_L 112 (0, ei_load 3 0 113, 0, 0)) (e_L 113 (0, ei_load 4 0 115, 0, 0))))) (e_T 119 (e_T 115 (e_L 115 (0, ei_load 5 0 117, 0, 0)) (e_T 117 (e_L 117 (0, ei_load 4 0 119, 0, 0)) (e_L 119 (0, ei_load 2 0 120, 0, 0)))) (e_T 123 (e_T 120 (e_L 120 (2, e_nof, 175, 6)) (e_L 123 (0, ei_if1 1 171 126, 0, 0))) (e_T 126 (e_L 126 (0, ei_load 0 2 127, 0, 0)) (e_L 127 (0, ei_load 3 0 128, 0, 0)))))))
set_option maxRecDepth 20000 in
set_option maxHeartbeats 4000000 in
theorem te_173_51_ok : ∀ pc, e_EOq eft cls elay eI n_173 pc (te_173_51 pc) :=
  (e_Tok2
  (e_Tok2
  (e_Tok2
  (e_Tok2
  (e_Lok (ps_iconst_0 (x_dk dn_173_0_2_ok 1 rfl)))
  (e_Tok2
  (e_Lok (e_rt (I := eI) (k := 4) ⟨(x_dk dn_173_0_2_ok 2 rfl), rfl⟩))
  (e_Lok (ld_aload_n_0 (x_dk dn_173_0_2_ok 3 rfl)))))
  (e_Tok2
  (e_Lok (lk_9_81g ho_173 (x_dk dn_173_0_2_ok 4 rfl)))
  (e_Tok2
  (e_Lok (ld_iload_n_3 (x_dk dn_173_0_2_ok 5 rfl)))
  (e_Lok (ld_iload_5 (x_dk dn_173_0_2_ok 6 rfl))))))
  (e_Tok2
  (e_Tok2
  (e_Lok (lk_9_62 ho_173 (x_dk dn_173_0_2_ok 7 rfl)))
  (e_Tok2
  (e_Lok (e_st (I := eI) (er_ifeq (off := 19) (tg := 111) (x_dk dn_173_0_2_ok 8 rfl) (by decide)) nx_if1))
  (e_Lok (ld_aload_n_0 (x_dk dn_173_0_2_ok 9 rfl)))))
  (e_Tok2
  (e_Tok2
  (e_Lok (lk_9_84g ho_173 (x_dk dn_173_0_2_ok 10 rfl)))
  (e_Lok (ld_iload_4 (x_dk dn_173_0_2_ok 11 rfl))))
  (e_Tok2
  (e_Lok (ld_iload_6 (x_dk dn_173_0_2_ok 12 rfl)))
  (e_Lok (lk_9_62 ho_173 (x_dk dn_173_0_2_ok 13 rfl)))))))
  (e_Tok2
  (e_Tok2
  (e_Tok2
  (e_Lok (e_st (I := eI) (er_ifeq (off := 5) (tg := 111) (x_dk dn_173_0_2_ok 14 rfl) (by decide)) nx_if1))
  (e_Tok2
  (e_Lok (ps_iconst_1 (x_dk dn_173_0_2_ok 15 rfl)))
  (e_Lok (e_rt (I := eI) (k := 4) ⟨(x_dk dn_173_0_2_ok 16 rfl), rfl⟩))))
  (e_Tok2
  (e_Lok (ld_aload_n_0 (x_dk dn_173_0_2_ok 17 rfl)))
  (e_Tok2
  (e_Lok (ld_iload_n_3 (x_dk dn_173_0_2_ok 18 rfl)))
  (e_Lok (ld_iload_4 (x_dk dn_173_0_2_ok 19 rfl))))))
  (e_Tok2
  (e_Tok2
  (e_Lok (ld_iload_5 (x_dk dn_173_0_2_ok 20 rfl)))
  (e_Tok2
  (e_Lok (ld_iload_4 (x_dk dn_173_0_2_ok 21 rfl)))
  (e_Lok (ld_iload_n_2 (x_dk dn_173_0_2_ok 22 rfl)))))
  (e_Tok2
  (e_Tok2
  (e_Lok (lk_9_108 ho_173 (x_dk dn_173_0_2_ok 23 rfl)))
  (e_Lok (e_st (I := eI) (er_ifne (off := 48) (tg := 171) (x_dk dn_173_0_2_ok 24 rfl) (by decide)) nx_if1)))
  (e_Tok2
  (e_Lok (ld_aload_n_0 (x_dk dn_173_0_3_ok 0 rfl)))
  (e_Lok (ld_iload_n_3 (x_dk dn_173_0_3_ok 1 rfl))))))))
def te_173_77 : Nat → eE := (e_T 149 (e_T 138 (e_T 132 (e_T 128 (e_L 128 (0, ei_load 6 0 130, 0, 0)) (e_T 130 (e_L 130 (0, ei_load 5 0 132, 0, 0)) (e_L 132 (0, ei_load 6 0 134, 0, 0)))) (e_T 134 (e_L 134 (0, ei_load 2 0 135, 0, 0)) (e_T 135 (e_L 135 (2, e_nof, 175, 6)) (e_L 138 (0, ei_if1 1 171 141, 0, 0))))) (e_T 143 (e_T 141 (e_L 141 (0, ei_load 0 2 142, 0, 0)) (e_T 142 (e_L 142 (0, ei_load 3 0 143, 0, 0)) (e_L 143 (0, ei_load 4 0 145, 0, 0)))) (e_T 146 (e_T 145 (e_L 145 (0, ei_load 3 0 146, 0, 0)) (e_L 146 (0, ei_load 6 0 148, 0, 0))) (e_T 148 (e_L 148 (0, ei_load 2 0 149, 0, 0)) (e_L 149 (2, e_nof, 175, 6)))))) (e_T 162 (e_T 156 (e_T 152 (e_L 152 (0, ei_if1 1 171 155, 0, 0)) (e_T 155 (e_L 155 (0, ei_load 0 2 156, 0, 0)) (e_L 156 (0, ei_load 5 0 158, 0, 0)))) (e_T 158 (e_L 158 (0, ei_load 4 0 160, 0, 0)) (e_T 160 (e_L 160 (0, ei_load 5 0 162, 0, 0)) (e_L 162 (0, ei_load 6 0 164, 0, 0))))) (e_T 168 (e_T 164 (e_L 164 (0, ei_load 2 0 165, 0, 0)) (e_T 165 (e_L 165 (2, e_nof, 175, 6)) (e_L 168 (0, ei_if1 0 175 171, 0, 0)))) (e_T 172 (e_T 171 (e_L 171 (0, ei_push (0, 1) 172, 0, 0)) (e_L 172 (0, ei_goto 176, 0, 0))) (e_T 175 (e_L 175 (0, ei_push (0, 0) 176, 0, 0)) (e_L 176 (1, e_nof, 4, 0)))))))
set_option maxRecDepth 20000 in
set_option maxHeartbeats 4000000 in
theorem te_173_77_ok : ∀ pc, e_EOq eft cls elay eI n_173 pc (te_173_77 pc) :=
  (e_Tok2
  (e_Tok2
  (e_Tok2
  (e_Tok2
  (e_Lok (ld_iload_6 (x_dk dn_173_0_3_ok 2 rfl)))
  (e_Tok2
  (e_Lok (ld_iload_5 (x_dk dn_173_0_3_ok 3 rfl)))
  (e_Lok (ld_iload_6 (x_dk dn_173_0_3_ok 4 rfl)))))
  (e_Tok2
  (e_Lok (ld_iload_n_2 (x_dk dn_173_0_3_ok 5 rfl)))
  (e_Tok2
  (e_Lok (lk_9_108 ho_173 (x_dk dn_173_0_3_ok 6 rfl)))
  (e_Lok (e_st (I := eI) (er_ifne (off := 33) (tg := 171) (x_dk dn_173_0_3_ok 7 rfl) (by decide)) nx_if1)))))
  (e_Tok2
  (e_Tok2
  (e_Lok (ld_aload_n_0 (x_dk dn_173_0_3_ok 8 rfl)))
  (e_Tok2
  (e_Lok (ld_iload_n_3 (x_dk dn_173_0_3_ok 9 rfl)))
  (e_Lok (ld_iload_4 (x_dk dn_173_0_3_ok 10 rfl)))))
  (e_Tok2
  (e_Tok2
  (e_Lok (ld_iload_n_3 (x_dk dn_173_0_3_ok 11 rfl)))
  (e_Lok (ld_iload_6 (x_dk dn_173_0_3_ok 12 rfl))))
  (e_Tok2
  (e_Lok (ld_iload_n_2 (x_dk dn_173_0_3_ok 13 rfl)))
  (e_Lok (lk_9_108 ho_173 (x_dk dn_173_0_3_ok 14 rfl)))))))
  (e_Tok2
  (e_Tok2
  (e_Tok2
  (e_Lok (e_st (I := eI) (er_ifne (off := 19) (tg := 171) (x_dk dn_173_0_3_ok 15 rfl) (by decide)) nx_if1))
  (e_Tok2
  (e_Lok (ld_aload_n_0 (x_dk dn_173_0_3_ok 16 rfl)))
  (e_Lok (ld_iload_5 (x_dk dn_173_0_3_ok 17 rfl)))))
  (e_Tok2
  (e_Lok (ld_iload_4 (x_dk dn_173_0_3_ok 18 rfl)))
  (e_Tok2
  (e_Lok (ld_iload_5 (x_dk dn_173_0_3_ok 19 rfl)))
  (e_Lok (ld_iload_6 (x_dk dn_173_0_3_ok 20 rfl))))))
  (e_Tok2
  (e_Tok2
  (e_Lok (ld_iload_n_2 (x_dk dn_173_0_3_ok 21 rfl)))
  (e_Tok2
  (e_Lok (lk_9_108 ho_173 (x_dk dn_173_0_3_ok 22 rfl)))
  (e_Lok (e_st (I := eI) (er_ifeq (off := 7) (tg := 175) (x_dk dn_173_0_3_ok 23 rfl) (by decide)) nx_if1))))
  (e_Tok2
  (e_Tok2
  (e_Lok (ps_iconst_1 (x_dk dn_173_0_3_ok 24 rfl)))
  (e_Lok (e_st (I := eI) (er_goto (off := 4) (tg := 176) (x_dk dn_173_1_0_ok 0 rfl) (by decide)) nx_goto)))
  (e_Tok2
  (e_Lok (ps_iconst_0 (x_dk dn_173_1_0_ok 1 rfl)))
  (e_Lok (e_rt (I := eI) (k := 4) ⟨(x_dk dn_173_1_0_ok 2 rfl), rfl⟩)))))))
def te_173 : Nat → eE := (e_T 77 (e_T 37 te_173_0 te_173_25) (e_T 127 te_173_51 te_173_77))
theorem te_173_ok : ∀ pc, e_EOq eft cls elay eI n_173 pc (te_173 pc) := (e_Tok2 ((e_Tok2 (te_173_0_ok) (te_173_25_ok))) ((e_Tok2 (te_173_51_ok) (te_173_77_ok))))
theorem ho_174 : (xm_y n_174).cls = "RobotCellHouse$Shapes" := rfl
def dn_174_0_0 : List (Nat × Instr × Nat) := [(0, .aload_n 0, 1), (1, .getfield 81, 3), (4, .aload_n 0, 1), (5, .getfield 87, 3), (8, .invokestatic 115, 3), (11, .iload 5, 2), (13, .iadd, 1), (14, .iload_n 1, 1), (15, .iload_n 3, 1), (16, .invokestatic 121, 3), (19, .if_icmp .lt 71, 3), (22, .iload_n 1, 1), (23, .iload_n 3, 1), (24, .invokestatic 115, 3), (27, .iload 5, 2), (29, .iadd, 1), (30, .aload_n 0, 1), (31, .getfield 81, 3), (34, .aload_n 0, 1), (35, .getfield 87, 3), (38, .invokestatic 121, 3), (41, .if_icmp .lt 49, 3), (44, .aload_n 0, 1), (45, .getfield 84, 3), (48, .aload_n 0, 1)]
set_option maxRecDepth 20000 in
theorem dn_174_0_0_ok : dn_174_0_0.all (fun q => decide (decode (xm_b n_174) q.1 = .ok (q.2.1, q.2.2))) = true := xa_g_ok (by decide +kernel)
def dn_174_0_1 : List (Nat × Instr × Nat) := [(49, .getfield 90, 3), (52, .invokestatic 115, 3), (55, .iload 5, 2), (57, .iadd, 1), (58, .iload_n 2, 1), (59, .iload 4, 2), (61, .invokestatic 121, 3), (64, .if_icmp .lt 26, 3), (67, .iload_n 2, 1), (68, .iload 4, 2), (70, .invokestatic 115, 3), (73, .iload 5, 2), (75, .iadd, 1), (76, .aload_n 0, 1), (77, .getfield 84, 3), (80, .aload_n 0, 1), (81, .getfield 90, 3), (84, .invokestatic 121, 3), (87, .if_icmp .ge 7, 3), (90, .iconst 1, 1), (91, .goto 4, 3), (94, .iconst 0, 1), (95, .ireturn, 1)]
set_option maxRecDepth 20000 in
theorem dn_174_0_1_ok : dn_174_0_1.all (fun q => decide (decode (xm_b n_174) q.1 = .ok (q.2.1, q.2.2))) = true := xa_g_ok (by decide +kernel)
def te_174_0 : Nat → eE := (e_T 22 (e_T 11 (e_T 4 (e_T 0 (e_L 0 (0, ei_load 0 2 1, 0, 0)) (e_T 1 (e_L 1 (0, ei_getf eft elay 9 13 4, 0, 0)) (e_L 4 (0, ei_load 0 2 5, 0, 0)))) (e_T 5 (e_L 5 (0, ei_getf eft elay 9 15 8, 0, 0)) (e_T 8 (e_L 8 (0, ei_m2 eM_max 11, 0, 0)) (e_L 11 (0, ei_load 5 0 13, 0, 0))))) (e_T 15 (e_T 13 (e_L 13 (0, ei_bin eF_add 14, 0, 0)) (e_T 14 (e_L 14 (0, ei_load 1 0 15, 0, 0)) (e_L 15 (0, ei_load 3 0 16, 0, 0)))) (e_T 16 (e_L 16 (0, ei_m2 eM_min 19, 0, 0)) (e_T 19 (e_L 19 (0, ei_if2 2 90 22, 0, 0)) (e_L 22 (0, ei_load 1 0 23, 0, 0)))))) (e_T 31 (e_T 27 (e_T 23 (e_L 23 (0, ei_load 3 0 24, 0, 0)) (e_T 24 (e_L 24 (0, ei_m2 eM_max 27, 0, 0)) (e_L 27 (0, ei_load 5 0 29, 0, 0)))) (e_T 29 (e_L 29 (0, ei_bin eF_add 30, 0, 0)) (e_T 30 (e_L 30 (0, ei_load 0 2 31, 0, 0)) (e_L 31 (0, ei_getf eft elay 9 13 34, 0, 0))))) (e_T 38 (e_T 34 (e_L 34 (0, ei_load 0 2 35, 0, 0)) (e_T 35 (e_L 35 (0, ei_getf eft elay 9 15 38, 0, 0)) (e_L 38 (0, ei_m2 eM_min 41, 0, 0)))) (e_T 41 (e_L 41 (0, ei_if2 2 90 44, 0, 0)) (e_T 44 (e_L 44 (0, ei_load 0 2 45, 0, 0)) (e_L 45 (0, ei_getf eft elay 9 14 48, 0, 0)))))))
set_option maxRecDepth 20000 in
set_option maxHeartbeats 4000000 in
theorem te_174_0_ok : ∀ pc, e_EOq eft cls elay eI n_174 pc (te_174_0 pc) :=
  (e_Tok2
  (e_Tok2
  (e_Tok2
  (e_Tok2
  (e_Lok (ld_aload_n_0 (x_dk dn_174_0_0_ok 0 rfl)))
  (e_Tok2
  (e_Lok (lk_9_81g ho_174 (x_dk dn_174_0_0_ok 1 rfl)))
  (e_Lok (ld_aload_n_0 (x_dk dn_174_0_0_ok 2 rfl)))))
  (e_Tok2
  (e_Lok (lk_9_87g ho_174 (x_dk dn_174_0_0_ok 3 rfl)))
  (e_Tok2
  (e_Lok (e_st (I := eI) (er_max (ix := 115) (in_t8 (List.mem_of_getElem? (i := 112) rfl) rfl) (in_t5 (List.mem_of_getElem? (i := 184) rfl) rfl) (in_t1 (List.mem_of_getElem? (i := 15) rfl) rfl) (in_t5 (List.mem_of_getElem? (i := 185) rfl) rfl) (x_dk dn_174_0_0_ok 4 rfl)) nx_m2))
  (e_Lok (ld_iload_5 (x_dk dn_174_0_0_ok 5 rfl))))))
  (e_Tok2
  (e_Tok2
  (e_Lok (sm_iadd (x_dk dn_174_0_0_ok 6 rfl)))
  (e_Tok2
  (e_Lok (ld_iload_n_1 (x_dk dn_174_0_0_ok 7 rfl)))
  (e_Lok (ld_iload_n_3 (x_dk dn_174_0_0_ok 8 rfl)))))
  (e_Tok2
  (e_Lok (e_st (I := eI) (er_min (ix := 121) (in_t8 (List.mem_of_getElem? (i := 113) rfl) rfl) (in_t5 (List.mem_of_getElem? (i := 187) rfl) rfl) (in_t1 (List.mem_of_getElem? (i := 15) rfl) rfl) (in_t5 (List.mem_of_getElem? (i := 188) rfl) rfl) (x_dk dn_174_0_0_ok 9 rfl)) nx_m2))
  (e_Tok2
  (e_Lok (e_st (I := eI) (er_icmplt (off := 71) (tg := 90) (x_dk dn_174_0_0_ok 10 rfl) (by decide)) nx_if2))
  (e_Lok (ld_iload_n_1 (x_dk dn_174_0_0_ok 11 rfl)))))))
  (e_Tok2
  (e_Tok2
  (e_Tok2
  (e_Lok (ld_iload_n_3 (x_dk dn_174_0_0_ok 12 rfl)))
  (e_Tok2
  (e_Lok (e_st (I := eI) (er_max (ix := 115) (in_t8 (List.mem_of_getElem? (i := 112) rfl) rfl) (in_t5 (List.mem_of_getElem? (i := 184) rfl) rfl) (in_t1 (List.mem_of_getElem? (i := 15) rfl) rfl) (in_t5 (List.mem_of_getElem? (i := 185) rfl) rfl) (x_dk dn_174_0_0_ok 13 rfl)) nx_m2))
  (e_Lok (ld_iload_5 (x_dk dn_174_0_0_ok 14 rfl)))))
  (e_Tok2
  (e_Lok (sm_iadd (x_dk dn_174_0_0_ok 15 rfl)))
  (e_Tok2
  (e_Lok (ld_aload_n_0 (x_dk dn_174_0_0_ok 16 rfl)))
  (e_Lok (lk_9_81g ho_174 (x_dk dn_174_0_0_ok 17 rfl))))))
  (e_Tok2
  (e_Tok2
  (e_Lok (ld_aload_n_0 (x_dk dn_174_0_0_ok 18 rfl)))
  (e_Tok2
  (e_Lok (lk_9_87g ho_174 (x_dk dn_174_0_0_ok 19 rfl)))
  (e_Lok (e_st (I := eI) (er_min (ix := 121) (in_t8 (List.mem_of_getElem? (i := 113) rfl) rfl) (in_t5 (List.mem_of_getElem? (i := 187) rfl) rfl) (in_t1 (List.mem_of_getElem? (i := 15) rfl) rfl) (in_t5 (List.mem_of_getElem? (i := 188) rfl) rfl) (x_dk dn_174_0_0_ok 20 rfl)) nx_m2))))
  (e_Tok2
  (e_Lok (e_st (I := eI) (er_icmplt (off := 49) (tg := 90) (x_dk dn_174_0_0_ok 21 rfl) (by decide)) nx_if2))
  (e_Tok2
  (e_Lok (ld_aload_n_0 (x_dk dn_174_0_0_ok 22 rfl)))
  (e_Lok (lk_9_84g ho_174 (x_dk dn_174_0_0_ok 23 rfl))))))))
def te_174_24 : Nat → eE := (e_T 70 (e_T 58 (e_T 52 (e_T 48 (e_L 48 (0, ei_load 0 2 49, 0, 0)) (e_T 49 (e_L 49 (0, ei_getf eft elay 9 16 52, 0, 0)) (e_L 52 (0, ei_m2 eM_max 55, 0, 0)))) (e_T 55 (e_L 55 (0, ei_load 5 0 57, 0, 0)) (e_T 57 (e_L 57 (0, ei_bin eF_add 58, 0, 0)) (e_L 58 (0, ei_load 2 0 59, 0, 0))))) (e_T 64 (e_T 59 (e_L 59 (0, ei_load 4 0 61, 0, 0)) (e_T 61 (e_L 61 (0, ei_m2 eM_min 64, 0, 0)) (e_L 64 (0, ei_if2 2 90 67, 0, 0)))) (e_T 67 (e_L 67 (0, ei_load 2 0 68, 0, 0)) (e_T 68 (e_L 68 (0, ei_load 4 0 70, 0, 0)) (e_L 70 (0, ei_m2 eM_max 73, 0, 0)))))) (e_T 81 (e_T 76 (e_T 73 (e_L 73 (0, ei_load 5 0 75, 0, 0)) (e_T 75 (e_L 75 (0, ei_bin eF_add 76, 0, 0)) (e_L 76 (0, ei_load 0 2 77, 0, 0)))) (e_T 77 (e_L 77 (0, ei_getf eft elay 9 14 80, 0, 0)) (e_T 80 (e_L 80 (0, ei_load 0 2 81, 0, 0)) (e_L 81 (0, ei_getf eft elay 9 16 84, 0, 0))))) (e_T 90 (e_T 84 (e_L 84 (0, ei_m2 eM_min 87, 0, 0)) (e_T 87 (e_L 87 (0, ei_if2 3 94 90, 0, 0)) (e_L 90 (0, ei_push (0, 1) 91, 0, 0)))) (e_T 91 (e_L 91 (0, ei_goto 95, 0, 0)) (e_T 94 (e_L 94 (0, ei_push (0, 0) 95, 0, 0)) (e_L 95 (1, e_nof, 4, 0)))))))
set_option maxRecDepth 20000 in
set_option maxHeartbeats 4000000 in
theorem te_174_24_ok : ∀ pc, e_EOq eft cls elay eI n_174 pc (te_174_24 pc) :=
  (e_Tok2
  (e_Tok2
  (e_Tok2
  (e_Tok2
  (e_Lok (ld_aload_n_0 (x_dk dn_174_0_0_ok 24 rfl)))
  (e_Tok2
  (e_Lok (lk_9_90g ho_174 (x_dk dn_174_0_1_ok 0 rfl)))
  (e_Lok (e_st (I := eI) (er_max (ix := 115) (in_t8 (List.mem_of_getElem? (i := 112) rfl) rfl) (in_t5 (List.mem_of_getElem? (i := 184) rfl) rfl) (in_t1 (List.mem_of_getElem? (i := 15) rfl) rfl) (in_t5 (List.mem_of_getElem? (i := 185) rfl) rfl) (x_dk dn_174_0_1_ok 1 rfl)) nx_m2))))
  (e_Tok2
  (e_Lok (ld_iload_5 (x_dk dn_174_0_1_ok 2 rfl)))
  (e_Tok2
  (e_Lok (sm_iadd (x_dk dn_174_0_1_ok 3 rfl)))
  (e_Lok (ld_iload_n_2 (x_dk dn_174_0_1_ok 4 rfl))))))
  (e_Tok2
  (e_Tok2
  (e_Lok (ld_iload_4 (x_dk dn_174_0_1_ok 5 rfl)))
  (e_Tok2
  (e_Lok (e_st (I := eI) (er_min (ix := 121) (in_t8 (List.mem_of_getElem? (i := 113) rfl) rfl) (in_t5 (List.mem_of_getElem? (i := 187) rfl) rfl) (in_t1 (List.mem_of_getElem? (i := 15) rfl) rfl) (in_t5 (List.mem_of_getElem? (i := 188) rfl) rfl) (x_dk dn_174_0_1_ok 6 rfl)) nx_m2))
  (e_Lok (e_st (I := eI) (er_icmplt (off := 26) (tg := 90) (x_dk dn_174_0_1_ok 7 rfl) (by decide)) nx_if2))))
  (e_Tok2
  (e_Lok (ld_iload_n_2 (x_dk dn_174_0_1_ok 8 rfl)))
  (e_Tok2
  (e_Lok (ld_iload_4 (x_dk dn_174_0_1_ok 9 rfl)))
  (e_Lok (e_st (I := eI) (er_max (ix := 115) (in_t8 (List.mem_of_getElem? (i := 112) rfl) rfl) (in_t5 (List.mem_of_getElem? (i := 184) rfl) rfl) (in_t1 (List.mem_of_getElem? (i := 15) rfl) rfl) (in_t5 (List.mem_of_getElem? (i := 185) rfl) rfl) (x_dk dn_174_0_1_ok 10 rfl)) nx_m2))))))
  (e_Tok2
  (e_Tok2
  (e_Tok2
  (e_Lok (ld_iload_5 (x_dk dn_174_0_1_ok 11 rfl)))
  (e_Tok2
  (e_Lok (sm_iadd (x_dk dn_174_0_1_ok 12 rfl)))
  (e_Lok (ld_aload_n_0 (x_dk dn_174_0_1_ok 13 rfl)))))
  (e_Tok2
  (e_Lok (lk_9_84g ho_174 (x_dk dn_174_0_1_ok 14 rfl)))
  (e_Tok2
  (e_Lok (ld_aload_n_0 (x_dk dn_174_0_1_ok 15 rfl)))
  (e_Lok (lk_9_90g ho_174 (x_dk dn_174_0_1_ok 16 rfl))))))
  (e_Tok2
  (e_Tok2
  (e_Lok (e_st (I := eI) (er_min (ix := 121) (in_t8 (List.mem_of_getElem? (i := 113) rfl) rfl) (in_t5 (List.mem_of_getElem? (i := 187) rfl) rfl) (in_t1 (List.mem_of_getElem? (i := 15) rfl) rfl) (in_t5 (List.mem_of_getElem? (i := 188) rfl) rfl) (x_dk dn_174_0_1_ok 17 rfl)) nx_m2))
  (e_Tok2
  (e_Lok (e_st (I := eI) (er_icmpge (off := 7) (tg := 94) (x_dk dn_174_0_1_ok 18 rfl) (by decide)) nx_if2))
  (e_Lok (ps_iconst_1 (x_dk dn_174_0_1_ok 19 rfl)))))
  (e_Tok2
  (e_Lok (e_st (I := eI) (er_goto (off := 4) (tg := 95) (x_dk dn_174_0_1_ok 20 rfl) (by decide)) nx_goto))
  (e_Tok2
  (e_Lok (ps_iconst_0 (x_dk dn_174_0_1_ok 21 rfl)))
  (e_Lok (e_rt (I := eI) (k := 4) ⟨(x_dk dn_174_0_1_ok 22 rfl), rfl⟩)))))))
def te_174 : Nat → eE := (e_T 45 te_174_0 te_174_24)
theorem te_174_ok : ∀ pc, e_EOq eft cls elay eI n_174 pc (te_174 pc) := (e_Tok2 (te_174_0_ok) (te_174_24_ok))
theorem ho_175 : (xm_y n_175).cls = "RobotCellHouse$Shapes" := rfl
def dn_175_0_0 : List (Nat × Instr × Nat) := [(0, .aload_n 0, 1), (1, .iload_n 1, 1), (2, .iload_n 2, 1), (3, .iload_n 3, 1), (4, .iload 4, 2), (6, .iload 5, 2), (8, .invokevirtual 112, 3), (11, .ifCond .eq 5, 3), (14, .iconst 0, 1), (15, .ireturn, 1), (16, .aload_n 0, 1), (17, .getfield 87, 3), (20, .aload_n 0, 1), (21, .getfield 81, 3), (24, .isub, 1), (25, .aload_n 0, 1), (26, .getfield 90, 3), (29, .aload_n 0, 1), (30, .getfield 84, 3), (33, .isub, 1), (34, .iload_n 1, 1), (35, .aload_n 0, 1), (36, .getfield 81, 3), (39, .isub, 1), (40, .iload_n 2, 1)]
set_option maxRecDepth 20000 in
theorem dn_175_0_0_ok : dn_175_0_0.all (fun q => decide (decode (xm_b n_175) q.1 = .ok (q.2.1, q.2.2))) = true := xa_g_ok (by decide +kernel)
def dn_175_0_1 : List (Nat × Instr × Nat) := [(41, .aload_n 0, 1), (42, .getfield 84, 3), (45, .isub, 1), (46, .invokestatic 124, 3), (49, .lstore 6, 2), (51, .aload_n 0, 1), (52, .getfield 87, 3), (55, .aload_n 0, 1), (56, .getfield 81, 3), (59, .isub, 1), (60, .aload_n 0, 1), (61, .getfield 90, 3), (64, .aload_n 0, 1), (65, .getfield 84, 3), (68, .isub, 1), (69, .iload_n 3, 1), (70, .aload_n 0, 1), (71, .getfield 81, 3), (74, .isub, 1), (75, .iload 4, 2), (77, .aload_n 0, 1), (78, .getfield 84, 3), (81, .isub, 1), (82, .invokestatic 124, 3), (85, .lstore 8, 2)]
set_option maxRecDepth 20000 in
theorem dn_175_0_1_ok : dn_175_0_1.all (fun q => decide (decode (xm_b n_175) q.1 = .ok (q.2.1, q.2.2))) = true := xa_g_ok (by decide +kernel)
def dn_175_0_2 : List (Nat × Instr × Nat) := [(87, .iload_n 3, 1), (88, .iload_n 1, 1), (89, .isub, 1), (90, .iload 4, 2), (92, .iload_n 2, 1), (93, .isub, 1), (94, .aload_n 0, 1), (95, .getfield 81, 3), (98, .iload_n 1, 1), (99, .isub, 1), (100, .aload_n 0, 1), (101, .getfield 84, 3), (104, .iload_n 2, 1), (105, .isub, 1), (106, .invokestatic 124, 3), (109, .lstore 10, 2), (111, .iload_n 3, 1), (112, .iload_n 1, 1), (113, .isub, 1), (114, .iload 4, 2), (116, .iload_n 2, 1), (117, .isub, 1), (118, .aload_n 0, 1), (119, .getfield 87, 3), (122, .iload_n 1, 1)]
set_option maxRecDepth 20000 in
theorem dn_175_0_2_ok : dn_175_0_2.all (fun q => decide (decode (xm_b n_175) q.1 = .ok (q.2.1, q.2.2))) = true := xa_g_ok (by decide +kernel)
def dn_175_0_3 : List (Nat × Instr × Nat) := [(123, .isub, 1), (124, .aload_n 0, 1), (125, .getfield 90, 3), (128, .iload_n 2, 1), (129, .isub, 1), (130, .invokestatic 124, 3), (133, .lstore 12, 2), (135, .lload 6, 2), (137, .lconst 0, 1), (138, .lcmp, 1), (139, .ifCond .ge 10, 3), (142, .lload 8, 2), (144, .lconst 0, 1), (145, .lcmp, 1), (146, .ifCond .gt 17, 3), (149, .lload 6, 2), (151, .lconst 0, 1), (152, .lcmp, 1), (153, .ifCond .le 40, 3), (156, .lload 8, 2), (158, .lconst 0, 1), (159, .lcmp, 1), (160, .ifCond .ge 33, 3), (163, .lload 10, 2), (165, .lconst 0, 1)]
set_option maxRecDepth 20000 in
theorem dn_175_0_3_ok : dn_175_0_3.all (fun q => decide (decode (xm_b n_175) q.1 = .ok (q.2.1, q.2.2))) = true := xa_g_ok (by decide +kernel)
def dn_175_1_0 : List (Nat × Instr × Nat) := [(166, .lcmp, 1), (167, .ifCond .ge 10, 3), (170, .lload 12, 2), (172, .lconst 0, 1), (173, .lcmp, 1), (174, .ifCond .gt 17, 3), (177, .lload 10, 2), (179, .lconst 0, 1), (180, .lcmp, 1), (181, .ifCond .le 12, 3), (184, .lload 12, 2), (186, .lconst 0, 1), (187, .lcmp, 1), (188, .ifCond .ge 5, 3), (191, .iconst 1, 1), (192, .ireturn, 1), (193, .aload_n 0, 1), (194, .getfield 87, 3), (197, .aload_n 0, 1), (198, .getfield 81, 3), (201, .isub, 1), (202, .aload_n 0, 1), (203, .getfield 90, 3), (206, .aload_n 0, 1), (207, .getfield 84, 3)]
set_option maxRecDepth 20000 in
theorem dn_175_1_0_ok : dn_175_1_0.all (fun q => decide (decode (xm_b n_175) q.1 = .ok (q.2.1, q.2.2))) = true := xa_g_ok (by decide +kernel)
def dn_175_1_1 : List (Nat × Instr × Nat) := [(210, .isub, 1), (211, .iload_n 1, 1), (212, .aload_n 0, 1), (213, .getfield 81, 3), (216, .isub, 1), (217, .iload_n 2, 1), (218, .aload_n 0, 1), (219, .getfield 84, 3), (222, .isub, 1), (223, .iload 5, 2), (225, .invokestatic 128, 3), (228, .ifCond .ne 96, 3), (231, .aload_n 0, 1), (232, .getfield 87, 3), (235, .aload_n 0, 1), (236, .getfield 81, 3), (239, .isub, 1), (240, .aload_n 0, 1), (241, .getfield 90, 3), (244, .aload_n 0, 1), (245, .getfield 84, 3), (248, .isub, 1), (249, .iload_n 3, 1), (250, .aload_n 0, 1), (251, .getfield 81, 3)]
set_option maxRecDepth 20000 in
theorem dn_175_1_1_ok : dn_175_1_1.all (fun q => decide (decode (xm_b n_175) q.1 = .ok (q.2.1, q.2.2))) = true := xa_g_ok (by decide +kernel)
def dn_175_1_2 : List (Nat × Instr × Nat) := [(254, .isub, 1), (255, .iload 4, 2), (257, .aload_n 0, 1), (258, .getfield 84, 3), (261, .isub, 1), (262, .iload 5, 2), (264, .invokestatic 128, 3), (267, .ifCond .ne 57, 3), (270, .iload_n 3, 1), (271, .iload_n 1, 1), (272, .isub, 1), (273, .iload 4, 2), (275, .iload_n 2, 1), (276, .isub, 1), (277, .aload_n 0, 1), (278, .getfield 81, 3), (281, .iload_n 1, 1), (282, .isub, 1), (283, .aload_n 0, 1), (284, .getfield 84, 3), (287, .iload_n 2, 1), (288, .isub, 1), (289, .iload 5, 2), (291, .invokestatic 128, 3), (294, .ifCond .ne 30, 3)]
set_option maxRecDepth 20000 in
theorem dn_175_1_2_ok : dn_175_1_2.all (fun q => decide (decode (xm_b n_175) q.1 = .ok (q.2.1, q.2.2))) = true := xa_g_ok (by decide +kernel)
def dn_175_1_3 : List (Nat × Instr × Nat) := [(297, .iload_n 3, 1), (298, .iload_n 1, 1), (299, .isub, 1), (300, .iload 4, 2), (302, .iload_n 2, 1), (303, .isub, 1), (304, .aload_n 0, 1), (305, .getfield 87, 3), (308, .iload_n 1, 1), (309, .isub, 1), (310, .aload_n 0, 1), (311, .getfield 90, 3), (314, .iload_n 2, 1), (315, .isub, 1), (316, .iload 5, 2), (318, .invokestatic 128, 3), (321, .ifCond .eq 7, 3), (324, .iconst 1, 1), (325, .goto 4, 3), (328, .iconst 0, 1), (329, .ireturn, 1)]
set_option maxRecDepth 20000 in
theorem dn_175_1_3_ok : dn_175_1_3.all (fun q => decide (decode (xm_b n_175) q.1 = .ok (q.2.1, q.2.2))) = true := xa_g_ok (by decide +kernel)
def te_175_0 : Nat → eE := (e_T 17 (e_T 6 (e_T 2 (e_T 0 (e_L 0 (0, ei_load 0 2 1, 0, 0)) (e_T 1 (e_L 1 (0, ei_load 1 0 2, 0, 0)) (e_L 2 (0, ei_load 2 0 3, 0, 0)))) (e_T 3 (e_L 3 (0, ei_load 3 0 4, 0, 0)) (e_T 4 (e_L 4 (0, ei_load 4 0 6, 0, 0)) (e_L 6 (0, ei_load 5 0 8, 0, 0))))) (e_T 14 (e_T 8 (e_L 8 (2, e_nof, 174, 6)) (e_T 11 (e_L 11 (0, ei_if1 0 16 14, 0, 0)) (e_L 14 (0, ei_push (0, 0) 15, 0, 0)))) (e_T 15 (e_L 15 (1, e_nof, 4, 0)) (e_T 16 (e_L 16 (0, ei_load 0 2 17, 0, 0)) (e_L 17 (0, ei_getf eft elay 9 15 20, 0, 0)))))) (e_T 29 (e_T 24 (e_T 20 (e_L 20 (0, ei_load 0 2 21, 0, 0)) (e_T 21 (e_L 21 (0, ei_getf eft elay 9 13 24, 0, 0)) (e_L 24 (0, ei_bin eF_sub 25, 0, 0)))) (e_T 25 (e_L 25 (0, ei_load 0 2 26, 0, 0)) (e_T 26 (e_L 26 (0, ei_getf eft elay 9 16 29, 0, 0)) (e_L 29 (0, ei_load 0 2 30, 0, 0))))) (e_T 34 (e_T 30 (e_L 30 (0, ei_getf eft elay 9 14 33, 0, 0)) (e_T 33 (e_L 33 (0, ei_bin eF_sub 34, 0, 0)) (e_L 34 (0, ei_load 1 0 35, 0, 0)))) (e_T 35 (e_L 35 (0, ei_load 0 2 36, 0, 0)) (e_T 36 (e_L 36 (0, ei_getf eft elay 9 13 39, 0, 0)) (e_L 39 (0, ei_bin eF_sub 40, 0, 0)))))))
set_option maxRecDepth 20000 in
set_option maxHeartbeats 4000000 in
theorem te_175_0_ok : ∀ pc, e_EOq eft cls elay eI n_175 pc (te_175_0 pc) :=
  (e_Tok2
  (e_Tok2
  (e_Tok2
  (e_Tok2
  (e_Lok (ld_aload_n_0 (x_dk dn_175_0_0_ok 0 rfl)))
  (e_Tok2
  (e_Lok (ld_iload_n_1 (x_dk dn_175_0_0_ok 1 rfl)))
  (e_Lok (ld_iload_n_2 (x_dk dn_175_0_0_ok 2 rfl)))))
  (e_Tok2
  (e_Lok (ld_iload_n_3 (x_dk dn_175_0_0_ok 3 rfl)))
  (e_Tok2
  (e_Lok (ld_iload_4 (x_dk dn_175_0_0_ok 4 rfl)))
  (e_Lok (ld_iload_5 (x_dk dn_175_0_0_ok 5 rfl))))))
  (e_Tok2
  (e_Tok2
  (e_Lok (lk_9_112 ho_175 (x_dk dn_175_0_0_ok 6 rfl)))
  (e_Tok2
  (e_Lok (e_st (I := eI) (er_ifeq (off := 5) (tg := 16) (x_dk dn_175_0_0_ok 7 rfl) (by decide)) nx_if1))
  (e_Lok (ps_iconst_0 (x_dk dn_175_0_0_ok 8 rfl)))))
  (e_Tok2
  (e_Lok (e_rt (I := eI) (k := 4) ⟨(x_dk dn_175_0_0_ok 9 rfl), rfl⟩))
  (e_Tok2
  (e_Lok (ld_aload_n_0 (x_dk dn_175_0_0_ok 10 rfl)))
  (e_Lok (lk_9_87g ho_175 (x_dk dn_175_0_0_ok 11 rfl)))))))
  (e_Tok2
  (e_Tok2
  (e_Tok2
  (e_Lok (ld_aload_n_0 (x_dk dn_175_0_0_ok 12 rfl)))
  (e_Tok2
  (e_Lok (lk_9_81g ho_175 (x_dk dn_175_0_0_ok 13 rfl)))
  (e_Lok (sm_isub (x_dk dn_175_0_0_ok 14 rfl)))))
  (e_Tok2
  (e_Lok (ld_aload_n_0 (x_dk dn_175_0_0_ok 15 rfl)))
  (e_Tok2
  (e_Lok (lk_9_90g ho_175 (x_dk dn_175_0_0_ok 16 rfl)))
  (e_Lok (ld_aload_n_0 (x_dk dn_175_0_0_ok 17 rfl))))))
  (e_Tok2
  (e_Tok2
  (e_Lok (lk_9_84g ho_175 (x_dk dn_175_0_0_ok 18 rfl)))
  (e_Tok2
  (e_Lok (sm_isub (x_dk dn_175_0_0_ok 19 rfl)))
  (e_Lok (ld_iload_n_1 (x_dk dn_175_0_0_ok 20 rfl)))))
  (e_Tok2
  (e_Lok (ld_aload_n_0 (x_dk dn_175_0_0_ok 21 rfl)))
  (e_Tok2
  (e_Lok (lk_9_81g ho_175 (x_dk dn_175_0_0_ok 22 rfl)))
  (e_Lok (sm_isub (x_dk dn_175_0_0_ok 23 rfl))))))))
def te_175_24 : Nat → eE := (e_T 60 (e_T 49 (e_T 42 (e_T 40 (e_L 40 (0, ei_load 2 0 41, 0, 0)) (e_T 41 (e_L 41 (0, ei_load 0 2 42, 0, 0)) (e_L 42 (0, ei_getf eft elay 9 14 45, 0, 0)))) (e_T 45 (e_L 45 (0, ei_bin eF_sub 46, 0, 0)) (e_T 46 (e_L 46 (2, e_nof, 177, 4)) (e_L 49 (0, ei_stor 6 1 51, 0, 0))))) (e_T 55 (e_T 51 (e_L 51 (0, ei_load 0 2 52, 0, 0)) (e_T 52 (e_L 52 (0, ei_getf eft elay 9 15 55, 0, 0)) (e_L 55 (0, ei_load 0 2 56, 0, 0)))) (e_T 56 (e_L 56 (0, ei_getf eft elay 9 13 59, 0, 0)) (e_T 59 (e_L 59 (0, ei_bin eF_sub 60, 0, 0)) (e_L 60 (0, ei_load 0 2 61, 0, 0)))))) (e_T 70 (e_T 65 (e_T 61 (e_L 61 (0, ei_getf eft elay 9 16 64, 0, 0)) (e_T 64 (e_L 64 (0, ei_load 0 2 65, 0, 0)) (e_L 65 (0, ei_getf eft elay 9 14 68, 0, 0)))) (e_T 68 (e_L 68 (0, ei_bin eF_sub 69, 0, 0)) (e_T 69 (e_L 69 (0, ei_load 3 0 70, 0, 0)) (e_L 70 (0, ei_load 0 2 71, 0, 0))))) (e_T 75 (e_T 71 (e_L 71 (0, ei_getf eft elay 9 13 74, 0, 0)) (e_T 74 (e_L 74 (0, ei_bin eF_sub 75, 0, 0)) (e_L 75 (0, ei_load 4 0 77, 0, 0)))) (e_T 78 (e_T 77 (e_L 77 (0, ei_load 0 2 78, 0, 0)) (e_L 78 (0, ei_getf eft elay 9 14 81, 0, 0))) (e_T 81 (e_L 81 (0, ei_bin eF_sub 82, 0, 0)) (e_L 82 (2, e_nof, 177, 4)))))))
set_option maxRecDepth 20000 in
set_option maxHeartbeats 4000000 in
theorem te_175_24_ok : ∀ pc, e_EOq eft cls elay eI n_175 pc (te_175_24 pc) :=
  (e_Tok2
  (e_Tok2
  (e_Tok2
  (e_Tok2
  (e_Lok (ld_iload_n_2 (x_dk dn_175_0_0_ok 24 rfl)))
  (e_Tok2
  (e_Lok (ld_aload_n_0 (x_dk dn_175_0_1_ok 0 rfl)))
  (e_Lok (lk_9_84g ho_175 (x_dk dn_175_0_1_ok 1 rfl)))))
  (e_Tok2
  (e_Lok (sm_isub (x_dk dn_175_0_1_ok 2 rfl)))
  (e_Tok2
  (e_Lok (lk_9_124 ho_175 (x_dk dn_175_0_1_ok 3 rfl)))
  (e_Lok (e_st (I := eI) (er_lstore (i := 6) (x_dk dn_175_0_1_ok 4 rfl) (by decide +kernel)) nx_stor)))))
  (e_Tok2
  (e_Tok2
  (e_Lok (ld_aload_n_0 (x_dk dn_175_0_1_ok 5 rfl)))
  (e_Tok2
  (e_Lok (lk_9_87g ho_175 (x_dk dn_175_0_1_ok 6 rfl)))
  (e_Lok (ld_aload_n_0 (x_dk dn_175_0_1_ok 7 rfl)))))
  (e_Tok2
  (e_Lok (lk_9_81g ho_175 (x_dk dn_175_0_1_ok 8 rfl)))
  (e_Tok2
  (e_Lok (sm_isub (x_dk dn_175_0_1_ok 9 rfl)))
  (e_Lok (ld_aload_n_0 (x_dk dn_175_0_1_ok 10 rfl)))))))
  (e_Tok2
  (e_Tok2
  (e_Tok2
  (e_Lok (lk_9_90g ho_175 (x_dk dn_175_0_1_ok 11 rfl)))
  (e_Tok2
  (e_Lok (ld_aload_n_0 (x_dk dn_175_0_1_ok 12 rfl)))
  (e_Lok (lk_9_84g ho_175 (x_dk dn_175_0_1_ok 13 rfl)))))
  (e_Tok2
  (e_Lok (sm_isub (x_dk dn_175_0_1_ok 14 rfl)))
  (e_Tok2
  (e_Lok (ld_iload_n_3 (x_dk dn_175_0_1_ok 15 rfl)))
  (e_Lok (ld_aload_n_0 (x_dk dn_175_0_1_ok 16 rfl))))))
  (e_Tok2
  (e_Tok2
  (e_Lok (lk_9_81g ho_175 (x_dk dn_175_0_1_ok 17 rfl)))
  (e_Tok2
  (e_Lok (sm_isub (x_dk dn_175_0_1_ok 18 rfl)))
  (e_Lok (ld_iload_4 (x_dk dn_175_0_1_ok 19 rfl)))))
  (e_Tok2
  (e_Tok2
  (e_Lok (ld_aload_n_0 (x_dk dn_175_0_1_ok 20 rfl)))
  (e_Lok (lk_9_84g ho_175 (x_dk dn_175_0_1_ok 21 rfl))))
  (e_Tok2
  (e_Lok (sm_isub (x_dk dn_175_0_1_ok 22 rfl)))
  (e_Lok (lk_9_124 ho_175 (x_dk dn_175_0_1_ok 23 rfl))))))))
def te_175_49 : Nat → eE := (e_T 100 (e_T 92 (e_T 88 (e_T 85 (e_L 85 (0, ei_stor 8 1 87, 0, 0)) (e_T 87 (e_L 87 (0, ei_load 3 0 88, 0, 0)) (e_L 88 (0, ei_load 1 0 89, 0, 0)))) (e_T 89 (e_L 89 (0, ei_bin eF_sub 90, 0, 0)) (e_T 90 (e_L 90 (0, ei_load 4 0 92, 0, 0)) (e_L 92 (0, ei_load 2 0 93, 0, 0))))) (e_T 95 (e_T 93 (e_L 93 (0, ei_bin eF_sub 94, 0, 0)) (e_T 94 (e_L 94 (0, ei_load 0 2 95, 0, 0)) (e_L 95 (0, ei_getf eft elay 9 13 98, 0, 0)))) (e_T 98 (e_L 98 (0, ei_load 1 0 99, 0, 0)) (e_T 99 (e_L 99 (0, ei_bin eF_sub 100, 0, 0)) (e_L 100 (0, ei_load 0 2 101, 0, 0)))))) (e_T 111 (e_T 105 (e_T 101 (e_L 101 (0, ei_getf eft elay 9 14 104, 0, 0)) (e_T 104 (e_L 104 (0, ei_load 2 0 105, 0, 0)) (e_L 105 (0, ei_bin eF_sub 106, 0, 0)))) (e_T 106 (e_L 106 (2, e_nof, 177, 4)) (e_T 109 (e_L 109 (0, ei_stor 10 1 111, 0, 0)) (e_L 111 (0, ei_load 3 0 112, 0, 0))))) (e_T 114 (e_T 112 (e_L 112 (0, ei_load 1 0 113, 0, 0)) (e_T 113 (e_L 113 (0, ei_bin eF_sub 114, 0, 0)) (e_L 114 (0, ei_load 4 0 116, 0, 0)))) (e_T 116 (e_L 116 (0, ei_load 2 0 117, 0, 0)) (e_T 117 (e_L 117 (0, ei_bin eF_sub 118, 0, 0)) (e_L 118 (0, ei_load 0 2 119, 0, 0)))))))
set_option maxRecDepth 20000 in
set_option maxHeartbeats 4000000 in
theorem te_175_49_ok : ∀ pc, e_EOq eft cls elay eI n_175 pc (te_175_49 pc) :=
  (e_Tok2
  (e_Tok2
  (e_Tok2
  (e_Tok2
  (e_Lok (e_st (I := eI) (er_lstore (i := 8) (x_dk dn_175_0_1_ok 24 rfl) (by decide +kernel)) nx_stor))
  (e_Tok2
  (e_Lok (ld_iload_n_3 (x_dk dn_175_0_2_ok 0 rfl)))
  (e_Lok (ld_iload_n_1 (x_dk dn_175_0_2_ok 1 rfl)))))
  (e_Tok2
  (e_Lok (sm_isub (x_dk dn_175_0_2_ok 2 rfl)))
  (e_Tok2
  (e_Lok (ld_iload_4 (x_dk dn_175_0_2_ok 3 rfl)))
  (e_Lok (ld_iload_n_2 (x_dk dn_175_0_2_ok 4 rfl))))))
  (e_Tok2
  (e_Tok2
  (e_Lok (sm_isub (x_dk dn_175_0_2_ok 5 rfl)))
  (e_Tok2
  (e_Lok (ld_aload_n_0 (x_dk dn_175_0_2_ok 6 rfl)))
  (e_Lok (lk_9_81g ho_175 (x_dk dn_175_0_2_ok 7 rfl)))))
  (e_Tok2
  (e_Lok (ld_iload_n_1 (x_dk dn_175_0_2_ok 8 rfl)))
  (e_Tok2
  (e_Lok (sm_isub (x_dk dn_175_0_2_ok 9 rfl)))
  (e_Lok (ld_aload_n_0 (x_dk dn_175_0_2_ok 10 rfl)))))))
  (e_Tok2
  (e_Tok2
  (e_Tok2
  (e_Lok (lk_9_84g ho_175 (x_dk dn_175_0_2_ok 11 rfl)))
  (e_Tok2
  (e_Lok (ld_iload_n_2 (x_dk dn_175_0_2_ok 12 rfl)))
  (e_Lok (sm_isub (x_dk dn_175_0_2_ok 13 rfl)))))
  (e_Tok2
  (e_Lok (lk_9_124 ho_175 (x_dk dn_175_0_2_ok 14 rfl)))
  (e_Tok2
  (e_Lok (e_st (I := eI) (er_lstore (i := 10) (x_dk dn_175_0_2_ok 15 rfl) (by decide +kernel)) nx_stor))
  (e_Lok (ld_iload_n_3 (x_dk dn_175_0_2_ok 16 rfl))))))
  (e_Tok2
  (e_Tok2
  (e_Lok (ld_iload_n_1 (x_dk dn_175_0_2_ok 17 rfl)))
  (e_Tok2
  (e_Lok (sm_isub (x_dk dn_175_0_2_ok 18 rfl)))
  (e_Lok (ld_iload_4 (x_dk dn_175_0_2_ok 19 rfl)))))
  (e_Tok2
  (e_Lok (ld_iload_n_2 (x_dk dn_175_0_2_ok 20 rfl)))
  (e_Tok2
  (e_Lok (sm_isub (x_dk dn_175_0_2_ok 21 rfl)))
  (e_Lok (ld_aload_n_0 (x_dk dn_175_0_2_ok 22 rfl))))))))
def te_175_73 : Nat → eE := (e_T 138 (e_T 128 (e_T 123 (e_T 119 (e_L 119 (0, ei_getf eft elay 9 15 122, 0, 0)) (e_T 122 (e_L 122 (0, ei_load 1 0 123, 0, 0)) (e_L 123 (0, ei_bin eF_sub 124, 0, 0)))) (e_T 124 (e_L 124 (0, ei_load 0 2 125, 0, 0)) (e_T 125 (e_L 125 (0, ei_getf eft elay 9 16 128, 0, 0)) (e_L 128 (0, ei_load 2 0 129, 0, 0))))) (e_T 133 (e_T 129 (e_L 129 (0, ei_bin eF_sub 130, 0, 0)) (e_T 130 (e_L 130 (2, e_nof, 177, 4)) (e_L 133 (0, ei_stor 12 1 135, 0, 0)))) (e_T 135 (e_L 135 (0, ei_load 6 1 137, 0, 0)) (e_T 137 (e_L 137 (0, ei_push (4, 0) 138, 0, 0)) (e_L 138 (0, ei_binL eG_cmp 139, 0, 0)))))) (e_T 149 (e_T 144 (e_T 139 (e_L 139 (0, ei_if1 3 149 142, 0, 0)) (e_T 142 (e_L 142 (0, ei_load 8 1 144, 0, 0)) (e_L 144 (0, ei_push (4, 0) 145, 0, 0)))) (e_T 145 (e_L 145 (0, ei_binL eG_cmp 146, 0, 0)) (e_T 146 (e_L 146 (0, ei_if1 4 163 149, 0, 0)) (e_L 149 (0, ei_load 6 1 151, 0, 0))))) (e_T 153 (e_T 151 (e_L 151 (0, ei_push (4, 0) 152, 0, 0)) (e_T 152 (e_L 152 (0, ei_binL eG_cmp 153, 0, 0)) (e_L 153 (0, ei_if1 5 193 156, 0, 0)))) (e_T 158 (e_T 156 (e_L 156 (0, ei_load 8 1 158, 0, 0)) (e_L 158 (0, ei_push (4, 0) 159, 0, 0))) (e_T 159 (e_L 159 (0, ei_binL eG_cmp 160, 0, 0)) (e_L 160 (0, ei_if1 3 193 163, 0, 0)))))))
set_option maxRecDepth 20000 in
set_option maxHeartbeats 4000000 in
theorem te_175_73_ok : ∀ pc, e_EOq eft cls elay eI n_175 pc (te_175_73 pc) :=
  (e_Tok2
  (e_Tok2
  (e_Tok2
  (e_Tok2
  (e_Lok (lk_9_87g ho_175 (x_dk dn_175_0_2_ok 23 rfl)))
  (e_Tok2
  (e_Lok (ld_iload_n_1 (x_dk dn_175_0_2_ok 24 rfl)))
  (e_Lok (sm_isub (x_dk dn_175_0_3_ok 0 rfl)))))
  (e_Tok2
  (e_Lok (ld_aload_n_0 (x_dk dn_175_0_3_ok 1 rfl)))
  (e_Tok2
  (e_Lok (lk_9_90g ho_175 (x_dk dn_175_0_3_ok 2 rfl)))
  (e_Lok (ld_iload_n_2 (x_dk dn_175_0_3_ok 3 rfl))))))
  (e_Tok2
  (e_Tok2
  (e_Lok (sm_isub (x_dk dn_175_0_3_ok 4 rfl)))
  (e_Tok2
  (e_Lok (lk_9_124 ho_175 (x_dk dn_175_0_3_ok 5 rfl)))
  (e_Lok (e_st (I := eI) (er_lstore (i := 12) (x_dk dn_175_0_3_ok 6 rfl) (by decide +kernel)) nx_stor))))
  (e_Tok2
  (e_Lok (ld_lload_6 (x_dk dn_175_0_3_ok 7 rfl)))
  (e_Tok2
  (e_Lok (ps_lconst_0 (x_dk dn_175_0_3_ok 8 rfl)))
  (e_Lok (e_st (I := eI) (er_lcmp (x_dk dn_175_0_3_ok 9 rfl)) (nx_binL bG_lcmp)))))))
  (e_Tok2
  (e_Tok2
  (e_Tok2
  (e_Lok (e_st (I := eI) (er_ifge (off := 10) (tg := 149) (x_dk dn_175_0_3_ok 10 rfl) (by decide)) nx_if1))
  (e_Tok2
  (e_Lok (ld_lload_8 (x_dk dn_175_0_3_ok 11 rfl)))
  (e_Lok (ps_lconst_0 (x_dk dn_175_0_3_ok 12 rfl)))))
  (e_Tok2
  (e_Lok (e_st (I := eI) (er_lcmp (x_dk dn_175_0_3_ok 13 rfl)) (nx_binL bG_lcmp)))
  (e_Tok2
  (e_Lok (e_st (I := eI) (er_ifgt (off := 17) (tg := 163) (x_dk dn_175_0_3_ok 14 rfl) (by decide)) nx_if1))
  (e_Lok (ld_lload_6 (x_dk dn_175_0_3_ok 15 rfl))))))
  (e_Tok2
  (e_Tok2
  (e_Lok (ps_lconst_0 (x_dk dn_175_0_3_ok 16 rfl)))
  (e_Tok2
  (e_Lok (e_st (I := eI) (er_lcmp (x_dk dn_175_0_3_ok 17 rfl)) (nx_binL bG_lcmp)))
  (e_Lok (e_st (I := eI) (er_ifle (off := 40) (tg := 193) (x_dk dn_175_0_3_ok 18 rfl) (by decide)) nx_if1))))
  (e_Tok2
  (e_Tok2
  (e_Lok (ld_lload_8 (x_dk dn_175_0_3_ok 19 rfl)))
  (e_Lok (ps_lconst_0 (x_dk dn_175_0_3_ok 20 rfl))))
  (e_Tok2
  (e_Lok (e_st (I := eI) (er_lcmp (x_dk dn_175_0_3_ok 21 rfl)) (nx_binL bG_lcmp)))
  (e_Lok (e_st (I := eI) (er_ifge (off := 33) (tg := 193) (x_dk dn_175_0_3_ok 22 rfl) (by decide)) nx_if1)))))))
def te_175_98 : Nat → eE := (e_T 181 (e_T 172 (e_T 166 (e_T 163 (e_L 163 (0, ei_load 10 1 165, 0, 0)) (e_T 165 (e_L 165 (0, ei_push (4, 0) 166, 0, 0)) (e_L 166 (0, ei_binL eG_cmp 167, 0, 0)))) (e_T 167 (e_L 167 (0, ei_if1 3 177 170, 0, 0)) (e_T 170 (e_L 170 (0, ei_load 12 1 172, 0, 0)) (e_L 172 (0, ei_push (4, 0) 173, 0, 0))))) (e_T 177 (e_T 173 (e_L 173 (0, ei_binL eG_cmp 174, 0, 0)) (e_T 174 (e_L 174 (0, ei_if1 4 191 177, 0, 0)) (e_L 177 (0, ei_load 10 1 179, 0, 0)))) (e_T 179 (e_L 179 (0, ei_push (4, 0) 180, 0, 0)) (e_T 180 (e_L 180 (0, ei_binL eG_cmp 181, 0, 0)) (e_L 181 (0, ei_if1 5 193 184, 0, 0)))))) (e_T 192 (e_T 187 (e_T 184 (e_L 184 (0, ei_load 12 1 186, 0, 0)) (e_T 186 (e_L 186 (0, ei_push (4, 0) 187, 0, 0)) (e_L 187 (0, ei_binL eG_cmp 188, 0, 0)))) (e_T 188 (e_L 188 (0, ei_if1 3 193 191, 0, 0)) (e_T 191 (e_L 191 (0, ei_push (0, 1) 192, 0, 0)) (e_L 192 (1, e_nof, 4, 0))))) (e_T 197 (e_T 193 (e_L 193 (0, ei_load 0 2 194, 0, 0)) (e_T 194 (e_L 194 (0, ei_getf eft elay 9 15 197, 0, 0)) (e_L 197 (0, ei_load 0 2 198, 0, 0)))) (e_T 198 (e_L 198 (0, ei_getf eft elay 9 13 201, 0, 0)) (e_T 201 (e_L 201 (0, ei_bin eF_sub 202, 0, 0)) (e_L 202 (0, ei_load 0 2 203, 0, 0)))))))
set_option maxRecDepth 20000 in
set_option maxHeartbeats 4000000 in
theorem te_175_98_ok : ∀ pc, e_EOq eft cls elay eI n_175 pc (te_175_98 pc) :=
  (e_Tok2
  (e_Tok2
  (e_Tok2
  (e_Tok2
  (e_Lok (ld_lload_10 (x_dk dn_175_0_3_ok 23 rfl)))
  (e_Tok2
  (e_Lok (ps_lconst_0 (x_dk dn_175_0_3_ok 24 rfl)))
  (e_Lok (e_st (I := eI) (er_lcmp (x_dk dn_175_1_0_ok 0 rfl)) (nx_binL bG_lcmp)))))
  (e_Tok2
  (e_Lok (e_st (I := eI) (er_ifge (off := 10) (tg := 177) (x_dk dn_175_1_0_ok 1 rfl) (by decide)) nx_if1))
  (e_Tok2
  (e_Lok (ld_lload_12 (x_dk dn_175_1_0_ok 2 rfl)))
  (e_Lok (ps_lconst_0 (x_dk dn_175_1_0_ok 3 rfl))))))
  (e_Tok2
  (e_Tok2
  (e_Lok (e_st (I := eI) (er_lcmp (x_dk dn_175_1_0_ok 4 rfl)) (nx_binL bG_lcmp)))
  (e_Tok2
  (e_Lok (e_st (I := eI) (er_ifgt (off := 17) (tg := 191) (x_dk dn_175_1_0_ok 5 rfl) (by decide)) nx_if1))
  (e_Lok (ld_lload_10 (x_dk dn_175_1_0_ok 6 rfl)))))
  (e_Tok2
  (e_Lok (ps_lconst_0 (x_dk dn_175_1_0_ok 7 rfl)))
  (e_Tok2
  (e_Lok (e_st (I := eI) (er_lcmp (x_dk dn_175_1_0_ok 8 rfl)) (nx_binL bG_lcmp)))
  (e_Lok (e_st (I := eI) (er_ifle (off := 12) (tg := 193) (x_dk dn_175_1_0_ok 9 rfl) (by decide)) nx_if1))))))
  (e_Tok2
  (e_Tok2
  (e_Tok2
  (e_Lok (ld_lload_12 (x_dk dn_175_1_0_ok 10 rfl)))
  (e_Tok2
  (e_Lok (ps_lconst_0 (x_dk dn_175_1_0_ok 11 rfl)))
  (e_Lok (e_st (I := eI) (er_lcmp (x_dk dn_175_1_0_ok 12 rfl)) (nx_binL bG_lcmp)))))
  (e_Tok2
  (e_Lok (e_st (I := eI) (er_ifge (off := 5) (tg := 193) (x_dk dn_175_1_0_ok 13 rfl) (by decide)) nx_if1))
  (e_Tok2
  (e_Lok (ps_iconst_1 (x_dk dn_175_1_0_ok 14 rfl)))
  (e_Lok (e_rt (I := eI) (k := 4) ⟨(x_dk dn_175_1_0_ok 15 rfl), rfl⟩)))))
  (e_Tok2
  (e_Tok2
  (e_Lok (ld_aload_n_0 (x_dk dn_175_1_0_ok 16 rfl)))
  (e_Tok2
  (e_Lok (lk_9_87g ho_175 (x_dk dn_175_1_0_ok 17 rfl)))
  (e_Lok (ld_aload_n_0 (x_dk dn_175_1_0_ok 18 rfl)))))
  (e_Tok2
  (e_Lok (lk_9_81g ho_175 (x_dk dn_175_1_0_ok 19 rfl)))
  (e_Tok2
  (e_Lok (sm_isub (x_dk dn_175_1_0_ok 20 rfl)))
  (e_Lok (ld_aload_n_0 (x_dk dn_175_1_0_ok 21 rfl))))))))
def te_175_122 : Nat → eE := (e_T 222 (e_T 212 (e_T 207 (e_T 203 (e_L 203 (0, ei_getf eft elay 9 16 206, 0, 0)) (e_T 206 (e_L 206 (0, ei_load 0 2 207, 0, 0)) (e_L 207 (0, ei_getf eft elay 9 14 210, 0, 0)))) (e_T 210 (e_L 210 (0, ei_bin eF_sub 211, 0, 0)) (e_T 211 (e_L 211 (0, ei_load 1 0 212, 0, 0)) (e_L 212 (0, ei_load 0 2 213, 0, 0))))) (e_T 217 (e_T 213 (e_L 213 (0, ei_getf eft elay 9 13 216, 0, 0)) (e_T 216 (e_L 216 (0, ei_bin eF_sub 217, 0, 0)) (e_L 217 (0, ei_load 2 0 218, 0, 0)))) (e_T 218 (e_L 218 (0, ei_load 0 2 219, 0, 0)) (e_T 219 (e_L 219 (0, ei_getf eft elay 9 14 222, 0, 0)) (e_L 222 (0, ei_bin eF_sub 223, 0, 0)))))) (e_T 235 (e_T 228 (e_T 223 (e_L 223 (0, ei_load 5 0 225, 0, 0)) (e_T 225 (e_L 225 (2, e_nof, 176, 5)) (e_L 228 (0, ei_if1 1 324 231, 0, 0)))) (e_T 231 (e_L 231 (0, ei_load 0 2 232, 0, 0)) (e_T 232 (e_L 232 (0, ei_getf eft elay 9 15 235, 0, 0)) (e_L 235 (0, ei_load 0 2 236, 0, 0))))) (e_T 240 (e_T 236 (e_L 236 (0, ei_getf eft elay 9 13 239, 0, 0)) (e_T 239 (e_L 239 (0, ei_bin eF_sub 240, 0, 0)) (e_L 240 (0, ei_load 0 2 241, 0, 0)))) (e_T 244 (e_T 241 (e_L 241 (0, ei_getf eft elay 9 16 244, 0, 0)) (e_L 244 (0, ei_load 0 2 245, 0, 0))) (e_T 245 (e_L 245 (0, ei_getf eft elay 9 14 248, 0, 0)) (e_L 248 (0, ei_bin eF_sub 249, 0, 0)))))))
set_option maxRecDepth 20000 in
set_option maxHeartbeats 4000000 in
theorem te_175_122_ok : ∀ pc, e_EOq eft cls elay eI n_175 pc (te_175_122 pc) :=
  (e_Tok2
  (e_Tok2
  (e_Tok2
  (e_Tok2
  (e_Lok (lk_9_90g ho_175 (x_dk dn_175_1_0_ok 22 rfl)))
  (e_Tok2
  (e_Lok (ld_aload_n_0 (x_dk dn_175_1_0_ok 23 rfl)))
  (e_Lok (lk_9_84g ho_175 (x_dk dn_175_1_0_ok 24 rfl)))))
  (e_Tok2
  (e_Lok (sm_isub (x_dk dn_175_1_1_ok 0 rfl)))
  (e_Tok2
  (e_Lok (ld_iload_n_1 (x_dk dn_175_1_1_ok 1 rfl)))
  (e_Lok (ld_aload_n_0 (x_dk dn_175_1_1_ok 2 rfl))))))
  (e_Tok2
  (e_Tok2
  (e_Lok (lk_9_81g ho_175 (x_dk dn_175_1_1_ok 3 rfl)))
  (e_Tok2
  (e_Lok (sm_isub (x_dk dn_175_1_1_ok 4 rfl)))
  (e_Lok (ld_iload_n_2 (x_dk dn_175_1_1_ok 5 rfl)))))
  (e_Tok2
  (e_Lok (ld_aload_n_0 (x_dk dn_175_1_1_ok 6 rfl)))
  (e_Tok2
  (e_Lok (lk_9_84g ho_175 (x_dk dn_175_1_1_ok 7 rfl)))
  (e_Lok (sm_isub (x_dk dn_175_1_1_ok 8 rfl)))))))
  (e_Tok2
  (e_Tok2
  (e_Tok2
  (e_Lok (ld_iload_5 (x_dk dn_175_1_1_ok 9 rfl)))
  (e_Tok2
  (e_Lok (lk_9_128 ho_175 (x_dk dn_175_1_1_ok 10 rfl)))
  (e_Lok (e_st (I := eI) (er_ifne (off := 96) (tg := 324) (x_dk dn_175_1_1_ok 11 rfl) (by decide)) nx_if1))))
  (e_Tok2
  (e_Lok (ld_aload_n_0 (x_dk dn_175_1_1_ok 12 rfl)))
  (e_Tok2
  (e_Lok (lk_9_87g ho_175 (x_dk dn_175_1_1_ok 13 rfl)))
  (e_Lok (ld_aload_n_0 (x_dk dn_175_1_1_ok 14 rfl))))))
  (e_Tok2
  (e_Tok2
  (e_Lok (lk_9_81g ho_175 (x_dk dn_175_1_1_ok 15 rfl)))
  (e_Tok2
  (e_Lok (sm_isub (x_dk dn_175_1_1_ok 16 rfl)))
  (e_Lok (ld_aload_n_0 (x_dk dn_175_1_1_ok 17 rfl)))))
  (e_Tok2
  (e_Tok2
  (e_Lok (lk_9_90g ho_175 (x_dk dn_175_1_1_ok 18 rfl)))
  (e_Lok (ld_aload_n_0 (x_dk dn_175_1_1_ok 19 rfl))))
  (e_Tok2
  (e_Lok (lk_9_84g ho_175 (x_dk dn_175_1_1_ok 20 rfl)))
  (e_Lok (sm_isub (x_dk dn_175_1_1_ok 21 rfl))))))))
def te_175_147 : Nat → eE := (e_T 270 (e_T 257 (e_T 251 (e_T 249 (e_L 249 (0, ei_load 3 0 250, 0, 0)) (e_T 250 (e_L 250 (0, ei_load 0 2 251, 0, 0)) (e_L 251 (0, ei_getf eft elay 9 13 254, 0, 0)))) (e_T 254 (e_L 254 (0, ei_bin eF_sub 255, 0, 0)) (e_T 255 (e_L 255 (0, ei_load 4 0 257, 0, 0)) (e_L 257 (0, ei_load 0 2 258, 0, 0))))) (e_T 262 (e_T 258 (e_L 258 (0, ei_getf eft elay 9 14 261, 0, 0)) (e_T 261 (e_L 261 (0, ei_bin eF_sub 262, 0, 0)) (e_L 262 (0, ei_load 5 0 264, 0, 0)))) (e_T 264 (e_L 264 (2, e_nof, 176, 5)) (e_T 267 (e_L 267 (0, ei_if1 1 324 270, 0, 0)) (e_L 270 (0, ei_load 3 0 271, 0, 0)))))) (e_T 277 (e_T 273 (e_T 271 (e_L 271 (0, ei_load 1 0 272, 0, 0)) (e_T 272 (e_L 272 (0, ei_bin eF_sub 273, 0, 0)) (e_L 273 (0, ei_load 4 0 275, 0, 0)))) (e_T 275 (e_L 275 (0, ei_load 2 0 276, 0, 0)) (e_T 276 (e_L 276 (0, ei_bin eF_sub 277, 0, 0)) (e_L 277 (0, ei_load 0 2 278, 0, 0))))) (e_T 282 (e_T 278 (e_L 278 (0, ei_getf eft elay 9 13 281, 0, 0)) (e_T 281 (e_L 281 (0, ei_load 1 0 282, 0, 0)) (e_L 282 (0, ei_bin eF_sub 283, 0, 0)))) (e_T 283 (e_L 283 (0, ei_load 0 2 284, 0, 0)) (e_T 284 (e_L 284 (0, ei_getf eft elay 9 14 287, 0, 0)) (e_L 287 (0, ei_load 2 0 288, 0, 0)))))))
set_option maxRecDepth 20000 in
set_option maxHeartbeats 4000000 in
theorem te_175_147_ok : ∀ pc, e_EOq eft cls elay eI n_175 pc (te_175_147 pc) :=
  (e_Tok2
  (e_Tok2
  (e_Tok2
  (e_Tok2
  (e_Lok (ld_iload_n_3 (x_dk dn_175_1_1_ok 22 rfl)))
  (e_Tok2
  (e_Lok (ld_aload_n_0 (x_dk dn_175_1_1_ok 23 rfl)))
  (e_Lok (lk_9_81g ho_175 (x_dk dn_175_1_1_ok 24 rfl)))))
  (e_Tok2
  (e_Lok (sm_isub (x_dk dn_175_1_2_ok 0 rfl)))
  (e_Tok2
  (e_Lok (ld_iload_4 (x_dk dn_175_1_2_ok 1 rfl)))
  (e_Lok (ld_aload_n_0 (x_dk dn_175_1_2_ok 2 rfl))))))
  (e_Tok2
  (e_Tok2
  (e_Lok (lk_9_84g ho_175 (x_dk dn_175_1_2_ok 3 rfl)))
  (e_Tok2
  (e_Lok (sm_isub (x_dk dn_175_1_2_ok 4 rfl)))
  (e_Lok (ld_iload_5 (x_dk dn_175_1_2_ok 5 rfl)))))
  (e_Tok2
  (e_Lok (lk_9_128 ho_175 (x_dk dn_175_1_2_ok 6 rfl)))
  (e_Tok2
  (e_Lok (e_st (I := eI) (er_ifne (off := 57) (tg := 324) (x_dk dn_175_1_2_ok 7 rfl) (by decide)) nx_if1))
  (e_Lok (ld_iload_n_3 (x_dk dn_175_1_2_ok 8 rfl)))))))
  (e_Tok2
  (e_Tok2
  (e_Tok2
  (e_Lok (ld_iload_n_1 (x_dk dn_175_1_2_ok 9 rfl)))
  (e_Tok2
  (e_Lok (sm_isub (x_dk dn_175_1_2_ok 10 rfl)))
  (e_Lok (ld_iload_4 (x_dk dn_175_1_2_ok 11 rfl)))))
  (e_Tok2
  (e_Lok (ld_iload_n_2 (x_dk dn_175_1_2_ok 12 rfl)))
  (e_Tok2
  (e_Lok (sm_isub (x_dk dn_175_1_2_ok 13 rfl)))
  (e_Lok (ld_aload_n_0 (x_dk dn_175_1_2_ok 14 rfl))))))
  (e_Tok2
  (e_Tok2
  (e_Lok (lk_9_81g ho_175 (x_dk dn_175_1_2_ok 15 rfl)))
  (e_Tok2
  (e_Lok (ld_iload_n_1 (x_dk dn_175_1_2_ok 16 rfl)))
  (e_Lok (sm_isub (x_dk dn_175_1_2_ok 17 rfl)))))
  (e_Tok2
  (e_Lok (ld_aload_n_0 (x_dk dn_175_1_2_ok 18 rfl)))
  (e_Tok2
  (e_Lok (lk_9_84g ho_175 (x_dk dn_175_1_2_ok 19 rfl)))
  (e_Lok (ld_iload_n_2 (x_dk dn_175_1_2_ok 20 rfl))))))))
def te_175_171 : Nat → eE := (e_T 305 (e_T 298 (e_T 291 (e_T 288 (e_L 288 (0, ei_bin eF_sub 289, 0, 0)) (e_T 289 (e_L 289 (0, ei_load 5 0 291, 0, 0)) (e_L 291 (2, e_nof, 176, 5)))) (e_T 294 (e_L 294 (0, ei_if1 1 324 297, 0, 0)) (e_T 297 (e_L 297 (0, ei_load 3 0 298, 0, 0)) (e_L 298 (0, ei_load 1 0 299, 0, 0))))) (e_T 302 (e_T 299 (e_L 299 (0, ei_bin eF_sub 300, 0, 0)) (e_T 300 (e_L 300 (0, ei_load 4 0 302, 0, 0)) (e_L 302 (0, ei_load 2 0 303, 0, 0)))) (e_T 303 (e_L 303 (0, ei_bin eF_sub 304, 0, 0)) (e_T 304 (e_L 304 (0, ei_load 0 2 305, 0, 0)) (e_L 305 (0, ei_getf eft elay 9 15 308, 0, 0)))))) (e_T 315 (e_T 310 (e_T 308 (e_L 308 (0, ei_load 1 0 309, 0, 0)) (e_T 309 (e_L 309 (0, ei_bin eF_sub 310, 0, 0)) (e_L 310 (0, ei_load 0 2 311, 0, 0)))) (e_T 311 (e_L 311 (0, ei_getf eft elay 9 16 314, 0, 0)) (e_T 314 (e_L 314 (0, ei_load 2 0 315, 0, 0)) (e_L 315 (0, ei_bin eF_sub 316, 0, 0))))) (e_T 321 (e_T 316 (e_L 316 (0, ei_load 5 0 318, 0, 0)) (e_T 318 (e_L 318 (2, e_nof, 176, 5)) (e_L 321 (0, ei_if1 0 328 324, 0, 0)))) (e_T 325 (e_T 324 (e_L 324 (0, ei_push (0, 1) 325, 0, 0)) (e_L 325 (0, ei_goto 329, 0, 0))) (e_T 328 (e_L 328 (0, ei_push (0, 0) 329, 0, 0)) (e_L 329 (1, e_nof, 4, 0)))))))
set_option maxRecDepth 20000 in
set_option maxHeartbeats 4000000 in
theorem te_175_171_ok : ∀ pc, e_EOq eft cls elay eI n_175 pc (te_175_171 pc) :=
  (e_Tok2
  (e_Tok2
  (e_Tok2
  (e_Tok2
  (e_Lok (sm_isub (x_dk dn_175_1_2_ok 21 rfl)))
  (e_Tok2
  (e_Lok (ld_iload_5 (x_dk dn_175_1_2_ok 22 rfl)))
  (e_Lok (lk_9_128 ho_175 (x_dk dn_175_1_2_ok 23 rfl)))))
  (e_Tok2
  (e_Lok (e_st (I := eI) (er_ifne (off := 30) (tg := 324) (x_dk dn_175_1_2_ok 24 rfl) (by decide)) nx_if1))
  (e_Tok2
  (e_Lok (ld_iload_n_3 (x_dk dn_175_1_3_ok 0 rfl)))
  (e_Lok (ld_iload_n_1 (x_dk dn_175_1_3_ok 1 rfl))))))
  (e_Tok2
  (e_Tok2
  (e_Lok (sm_isub (x_dk dn_175_1_3_ok 2 rfl)))
  (e_Tok2
  (e_Lok (ld_iload_4 (x_dk dn_175_1_3_ok 3 rfl)))
  (e_Lok (ld_iload_n_2 (x_dk dn_175_1_3_ok 4 rfl)))))
  (e_Tok2
  (e_Lok (sm_isub (x_dk dn_175_1_3_ok 5 rfl)))
  (e_Tok2
  (e_Lok (ld_aload_n_0 (x_dk dn_175_1_3_ok 6 rfl)))
  (e_Lok (lk_9_87g ho_175 (x_dk dn_175_1_3_ok 7 rfl)))))))
  (e_Tok2
  (e_Tok2
  (e_Tok2
  (e_Lok (ld_iload_n_1 (x_dk dn_175_1_3_ok 8 rfl)))
  (e_Tok2
  (e_Lok (sm_isub (x_dk dn_175_1_3_ok 9 rfl)))
  (e_Lok (ld_aload_n_0 (x_dk dn_175_1_3_ok 10 rfl)))))
  (e_Tok2
  (e_Lok (lk_9_90g ho_175 (x_dk dn_175_1_3_ok 11 rfl)))
  (e_Tok2
  (e_Lok (ld_iload_n_2 (x_dk dn_175_1_3_ok 12 rfl)))
  (e_Lok (sm_isub (x_dk dn_175_1_3_ok 13 rfl))))))
  (e_Tok2
  (e_Tok2
  (e_Lok (ld_iload_5 (x_dk dn_175_1_3_ok 14 rfl)))
  (e_Tok2
  (e_Lok (lk_9_128 ho_175 (x_dk dn_175_1_3_ok 15 rfl)))
  (e_Lok (e_st (I := eI) (er_ifeq (off := 7) (tg := 328) (x_dk dn_175_1_3_ok 16 rfl) (by decide)) nx_if1))))
  (e_Tok2
  (e_Tok2
  (e_Lok (ps_iconst_1 (x_dk dn_175_1_3_ok 17 rfl)))
  (e_Lok (e_st (I := eI) (er_goto (off := 4) (tg := 329) (x_dk dn_175_1_3_ok 18 rfl) (by decide)) nx_goto)))
  (e_Tok2
  (e_Lok (ps_iconst_0 (x_dk dn_175_1_3_ok 19 rfl)))
  (e_Lok (e_rt (I := eI) (k := 4) ⟨(x_dk dn_175_1_3_ok 20 rfl), rfl⟩)))))))
def te_175 : Nat → eE := (e_T 160 (e_T 82 (e_T 39 te_175_0 te_175_24) (e_T 118 te_175_49 te_175_73)) (e_T 248 (e_T 202 te_175_98 te_175_122) (e_T 287 te_175_147 te_175_171)))
theorem te_175_ok : ∀ pc, e_EOq eft cls elay eI n_175 pc (te_175 pc) := (e_Tok2 ((e_Tok2 ((e_Tok2 (te_175_0_ok) (te_175_24_ok))) ((e_Tok2 (te_175_49_ok) (te_175_73_ok))))) ((e_Tok2 ((e_Tok2 (te_175_98_ok) (te_175_122_ok))) ((e_Tok2 (te_175_147_ok) (te_175_171_ok))))))
end
