noncomputable section
theorem ho_84 : (xm_y n_84).cls = "RobotCellHouse$Floor" := rfl
def dn_84_0_0 : List (Nat × Instr × Nat) := [(0, .aload_n 0, 1), (1, .getfield 50, 3), (4, .iload_n 2, 1), (5, .iaload, 1), (6, .istore_n 3, 1), (7, .aload_n 0, 1), (8, .getfield 50, 3), (11, .iload_n 2, 1), (12, .iconst 4, 1), (13, .iload_n 1, 1), (14, .iadd, 1), (15, .iastore, 1), (16, .iload_n 3, 1), (17, .iconst 4, 1), (18, .if_icmp .lt 4, 3), (21, .return_, 1), (22, .iconst 0, 1), (23, .istore 4, 2), (25, .iconst 0, 1), (26, .istore 5, 2), (28, .iload 5, 2), (30, .aload_n 0, 1), (31, .getfield 47, 3), (34, .iload_n 3, 1), (35, .iaload, 1)]
set_option maxRecDepth 20000 in
theorem dn_84_0_0_ok : dn_84_0_0.all (fun q => decide (decode (xm_b n_84) q.1 = .ok (q.2.1, q.2.2))) = true := xa_g_ok (by decide +kernel)
def dn_84_0_1 : List (Nat × Instr × Nat) := [(36, .if_icmp .ge 43, 3), (39, .aload_n 0, 1), (40, .getfield 44, 3), (43, .iload_n 3, 1), (44, .aaload, 1), (45, .iload 5, 2), (47, .iaload, 1), (48, .iload_n 2, 1), (49, .if_icmp .eq 24, 3), (52, .aload_n 0, 1), (53, .getfield 44, 3), (56, .iload_n 3, 1), (57, .aaload, 1), (58, .iload 4, 2), (60, .aload_n 0, 1), (61, .getfield 44, 3), (64, .iload_n 3, 1), (65, .aaload, 1), (66, .iload 5, 2), (68, .iaload, 1), (69, .iastore, 1), (70, .iinc 4 1, 3), (73, .iinc 5 1, 3), (76, .goto (-48), 3), (79, .aload_n 0, 1)]
set_option maxRecDepth 20000 in
theorem dn_84_0_1_ok : dn_84_0_1.all (fun q => decide (decode (xm_b n_84) q.1 = .ok (q.2.1, q.2.2))) = true := xa_g_ok (by decide +kernel)
def dn_84_0_2 : List (Nat × Instr × Nat) := [(80, .getfield 47, 3), (83, .iload_n 3, 1), (84, .iload 4, 2), (86, .iastore, 1), (87, .return_, 1)]
set_option maxRecDepth 20000 in
theorem dn_84_0_2_ok : dn_84_0_2.all (fun q => decide (decode (xm_b n_84) q.1 = .ok (q.2.1, q.2.2))) = true := xa_g_ok (by decide +kernel)
def te_84_0 : Nat → eE := (e_T 16 (e_T 7 (e_T 4 (e_T 0 (e_L 0 (0, ei_load 0 2 1, 0, 0)) (e_T 1 (e_L 1 (0, ei_getf eft elay 4 14 4, 0, 0)) (e_L 4 (0, ei_load 2 0 5, 0, 0)))) (e_T 5 (e_L 5 (0, ei_ald elay false 6, 0, 0)) (e_T 6 (e_L 6 (0, ei_stor 3 0 7, 0, 0)) (e_L 7 (0, ei_load 0 2 8, 0, 0))))) (e_T 12 (e_T 8 (e_L 8 (0, ei_getf eft elay 4 14 11, 0, 0)) (e_T 11 (e_L 11 (0, ei_load 2 0 12, 0, 0)) (e_L 12 (0, ei_push (0, 4) 13, 0, 0)))) (e_T 14 (e_T 13 (e_L 13 (0, ei_load 1 0 14, 0, 0)) (e_L 14 (0, ei_bin eF_add 15, 0, 0))) (e_T 15 (e_L 15 (0, ei_ast elay false 16, 0, 0)) (e_L 16 (0, ei_load 3 0 17, 0, 0)))))) (e_T 26 (e_T 21 (e_T 17 (e_L 17 (0, ei_push (0, 4) 18, 0, 0)) (e_T 18 (e_L 18 (0, ei_if2 2 22 21, 0, 0)) (e_L 21 (1, e_nof, 0, 0)))) (e_T 23 (e_T 22 (e_L 22 (0, ei_push (0, 0) 23, 0, 0)) (e_L 23 (0, ei_stor 4 0 25, 0, 0))) (e_T 25 (e_L 25 (0, ei_push (0, 0) 26, 0, 0)) (e_L 26 (0, ei_stor 5 0 28, 0, 0))))) (e_T 31 (e_T 28 (e_L 28 (0, ei_load 5 0 30, 0, 0)) (e_T 30 (e_L 30 (0, ei_load 0 2 31, 0, 0)) (e_L 31 (0, ei_getf eft elay 4 13 34, 0, 0)))) (e_T 35 (e_T 34 (e_L 34 (0, ei_load 3 0 35, 0, 0)) (e_L 35 (0, ei_ald elay false 36, 0, 0))) (e_T 36 (e_L 36 (0, ei_if2 3 79 39, 0, 0)) (e_L 39 (0, ei_load 0 2 40, 0, 0)))))))
set_option maxRecDepth 20000 in
set_option maxHeartbeats 4000000 in
theorem te_84_0_ok : ∀ pc, e_EOq eft cls elay eI n_84 pc (te_84_0 pc) :=
  (e_Tok2
  (e_Tok2
  (e_Tok2
  (e_Tok2
  (e_Lok (ld_aload_n_0 (x_dk dn_84_0_0_ok 0 rfl)))
  (e_Tok2
  (e_Lok (lk_4_50g ho_84 (x_dk dn_84_0_0_ok 1 rfl)))
  (e_Lok (ld_iload_n_2 (x_dk dn_84_0_0_ok 2 rfl)))))
  (e_Tok2
  (e_Lok (sm_iaload (x_dk dn_84_0_0_ok 3 rfl)))
  (e_Tok2
  (e_Lok (e_st (I := eI) (er_istore_n (i := 3) (x_dk dn_84_0_0_ok 4 rfl) (by decide +kernel)) nx_stor))
  (e_Lok (ld_aload_n_0 (x_dk dn_84_0_0_ok 5 rfl))))))
  (e_Tok2
  (e_Tok2
  (e_Lok (lk_4_50g ho_84 (x_dk dn_84_0_0_ok 6 rfl)))
  (e_Tok2
  (e_Lok (ld_iload_n_2 (x_dk dn_84_0_0_ok 7 rfl)))
  (e_Lok (ps_iconst_4 (x_dk dn_84_0_0_ok 8 rfl)))))
  (e_Tok2
  (e_Tok2
  (e_Lok (ld_iload_n_1 (x_dk dn_84_0_0_ok 9 rfl)))
  (e_Lok (sm_iadd (x_dk dn_84_0_0_ok 10 rfl))))
  (e_Tok2
  (e_Lok (sm_iastore (x_dk dn_84_0_0_ok 11 rfl)))
  (e_Lok (ld_iload_n_3 (x_dk dn_84_0_0_ok 12 rfl)))))))
  (e_Tok2
  (e_Tok2
  (e_Tok2
  (e_Lok (ps_iconst_4 (x_dk dn_84_0_0_ok 13 rfl)))
  (e_Tok2
  (e_Lok (e_st (I := eI) (er_icmplt (off := 4) (tg := 22) (x_dk dn_84_0_0_ok 14 rfl) (by decide)) nx_if2))
  (e_Lok (e_rt (I := eI) (k := 0) ⟨(x_dk dn_84_0_0_ok 15 rfl), rfl⟩))))
  (e_Tok2
  (e_Tok2
  (e_Lok (ps_iconst_0 (x_dk dn_84_0_0_ok 16 rfl)))
  (e_Lok (e_st (I := eI) (er_istore (i := 4) (x_dk dn_84_0_0_ok 17 rfl) (by decide +kernel)) nx_stor)))
  (e_Tok2
  (e_Lok (ps_iconst_0 (x_dk dn_84_0_0_ok 18 rfl)))
  (e_Lok (e_st (I := eI) (er_istore (i := 5) (x_dk dn_84_0_0_ok 19 rfl) (by decide +kernel)) nx_stor)))))
  (e_Tok2
  (e_Tok2
  (e_Lok (ld_iload_5 (x_dk dn_84_0_0_ok 20 rfl)))
  (e_Tok2
  (e_Lok (ld_aload_n_0 (x_dk dn_84_0_0_ok 21 rfl)))
  (e_Lok (lk_4_47g ho_84 (x_dk dn_84_0_0_ok 22 rfl)))))
  (e_Tok2
  (e_Tok2
  (e_Lok (ld_iload_n_3 (x_dk dn_84_0_0_ok 23 rfl)))
  (e_Lok (sm_iaload (x_dk dn_84_0_0_ok 24 rfl))))
  (e_Tok2
  (e_Lok (e_st (I := eI) (er_icmpge (off := 43) (tg := 79) (x_dk dn_84_0_1_ok 0 rfl) (by decide)) nx_if2))
  (e_Lok (ld_aload_n_0 (x_dk dn_84_0_1_ok 1 rfl))))))))
def te_84_27 : Nat → eE := (e_T 61 (e_T 49 (e_T 44 (e_T 40 (e_L 40 (0, ei_getf eft elay 4 12 43, 0, 0)) (e_T 43 (e_L 43 (0, ei_load 3 0 44, 0, 0)) (e_L 44 (0, ei_aald elay 45, 0, 0)))) (e_T 47 (e_T 45 (e_L 45 (0, ei_load 5 0 47, 0, 0)) (e_L 47 (0, ei_ald elay false 48, 0, 0))) (e_T 48 (e_L 48 (0, ei_load 2 0 49, 0, 0)) (e_L 49 (0, ei_if2 0 73 52, 0, 0))))) (e_T 56 (e_T 52 (e_L 52 (0, ei_load 0 2 53, 0, 0)) (e_T 53 (e_L 53 (0, ei_getf eft elay 4 12 56, 0, 0)) (e_L 56 (0, ei_load 3 0 57, 0, 0)))) (e_T 58 (e_T 57 (e_L 57 (0, ei_aald elay 58, 0, 0)) (e_L 58 (0, ei_load 4 0 60, 0, 0))) (e_T 60 (e_L 60 (0, ei_load 0 2 61, 0, 0)) (e_L 61 (0, ei_getf eft elay 4 12 64, 0, 0)))))) (e_T 73 (e_T 66 (e_T 64 (e_L 64 (0, ei_load 3 0 65, 0, 0)) (e_T 65 (e_L 65 (0, ei_aald elay 66, 0, 0)) (e_L 66 (0, ei_load 5 0 68, 0, 0)))) (e_T 69 (e_T 68 (e_L 68 (0, ei_ald elay false 69, 0, 0)) (e_L 69 (0, ei_ast elay false 70, 0, 0))) (e_T 70 (e_L 70 (0, ei_inc 4 1 73, 0, 0)) (e_L 73 (0, ei_inc 5 1 76, 0, 0))))) (e_T 80 (e_T 76 (e_L 76 (0, ei_goto 28, 0, 0)) (e_T 79 (e_L 79 (0, ei_load 0 2 80, 0, 0)) (e_L 80 (0, ei_getf eft elay 4 13 83, 0, 0)))) (e_T 84 (e_T 83 (e_L 83 (0, ei_load 3 0 84, 0, 0)) (e_L 84 (0, ei_load 4 0 86, 0, 0))) (e_T 86 (e_L 86 (0, ei_ast elay false 87, 0, 0)) (e_L 87 (1, e_nof, 0, 0)))))))
set_option maxRecDepth 20000 in
set_option maxHeartbeats 4000000 in
theorem te_84_27_ok : ∀ pc, e_EOq eft cls elay eI n_84 pc (te_84_27 pc) :=
  (e_Tok2
  (e_Tok2
  (e_Tok2
  (e_Tok2
  (e_Lok (lk_4_44g ho_84 (x_dk dn_84_0_1_ok 2 rfl)))
  (e_Tok2
  (e_Lok (ld_iload_n_3 (x_dk dn_84_0_1_ok 3 rfl)))
  (e_Lok (e_st (I := eI) (er_aaload (x_dk dn_84_0_1_ok 4 rfl)) nx_aald))))
  (e_Tok2
  (e_Tok2
  (e_Lok (ld_iload_5 (x_dk dn_84_0_1_ok 5 rfl)))
  (e_Lok (sm_iaload (x_dk dn_84_0_1_ok 6 rfl))))
  (e_Tok2
  (e_Lok (ld_iload_n_2 (x_dk dn_84_0_1_ok 7 rfl)))
  (e_Lok (e_st (I := eI) (er_icmpeq (off := 24) (tg := 73) (x_dk dn_84_0_1_ok 8 rfl) (by decide)) nx_if2)))))
  (e_Tok2
  (e_Tok2
  (e_Lok (ld_aload_n_0 (x_dk dn_84_0_1_ok 9 rfl)))
  (e_Tok2
  (e_Lok (lk_4_44g ho_84 (x_dk dn_84_0_1_ok 10 rfl)))
  (e_Lok (ld_iload_n_3 (x_dk dn_84_0_1_ok 11 rfl)))))
  (e_Tok2
  (e_Tok2
  (e_Lok (e_st (I := eI) (er_aaload (x_dk dn_84_0_1_ok 12 rfl)) nx_aald))
  (e_Lok (ld_iload_4 (x_dk dn_84_0_1_ok 13 rfl))))
  (e_Tok2
  (e_Lok (ld_aload_n_0 (x_dk dn_84_0_1_ok 14 rfl)))
  (e_Lok (lk_4_44g ho_84 (x_dk dn_84_0_1_ok 15 rfl)))))))
  (e_Tok2
  (e_Tok2
  (e_Tok2
  (e_Lok (ld_iload_n_3 (x_dk dn_84_0_1_ok 16 rfl)))
  (e_Tok2
  (e_Lok (e_st (I := eI) (er_aaload (x_dk dn_84_0_1_ok 17 rfl)) nx_aald))
  (e_Lok (ld_iload_5 (x_dk dn_84_0_1_ok 18 rfl)))))
  (e_Tok2
  (e_Tok2
  (e_Lok (sm_iaload (x_dk dn_84_0_1_ok 19 rfl)))
  (e_Lok (sm_iastore (x_dk dn_84_0_1_ok 20 rfl))))
  (e_Tok2
  (e_Lok (e_st (I := eI) (er_iinc (i := 4) (n := 1) (x_dk dn_84_0_1_ok 21 rfl) (by decide +kernel) (by decide)) nx_inc))
  (e_Lok (e_st (I := eI) (er_iinc (i := 5) (n := 1) (x_dk dn_84_0_1_ok 22 rfl) (by decide +kernel) (by decide)) nx_inc)))))
  (e_Tok2
  (e_Tok2
  (e_Lok (e_st (I := eI) (er_goto (off := (-48)) (tg := 28) (x_dk dn_84_0_1_ok 23 rfl) (by decide)) nx_goto))
  (e_Tok2
  (e_Lok (ld_aload_n_0 (x_dk dn_84_0_1_ok 24 rfl)))
  (e_Lok (lk_4_47g ho_84 (x_dk dn_84_0_2_ok 0 rfl)))))
  (e_Tok2
  (e_Tok2
  (e_Lok (ld_iload_n_3 (x_dk dn_84_0_2_ok 1 rfl)))
  (e_Lok (ld_iload_4 (x_dk dn_84_0_2_ok 2 rfl))))
  (e_Tok2
  (e_Lok (sm_iastore (x_dk dn_84_0_2_ok 3 rfl)))
  (e_Lok (e_rt (I := eI) (k := 0) ⟨(x_dk dn_84_0_2_ok 4 rfl), rfl⟩)))))))
def te_84 : Nat → eE := (e_T 39 te_84_0 te_84_27)
theorem te_84_ok : ∀ pc, e_EOq eft cls elay eI n_84 pc (te_84 pc) := (e_Tok2 (te_84_0_ok) (te_84_27_ok))
theorem ho_85 : (xm_y n_85).cls = "RobotCellHouse$Floor" := rfl
def dn_85_0_0 : List (Nat × Instr × Nat) := [(0, .iconst 0, 1), (1, .istore 4, 2), (3, .iload 4, 2), (5, .aload_n 0, 1), (6, .getfield 68, 3), (9, .if_icmp .ge 118, 3), (12, .iload_n 2, 1), (13, .aload_n 0, 1), (14, .getfield 27, 3), (17, .iload 4, 2), (19, .iaload, 1), (20, .isub, 1), (21, .istore 5, 2), (23, .iload_n 3, 1), (24, .aload_n 0, 1), (25, .getfield 30, 3), (28, .iload 4, 2), (30, .iaload, 1), (31, .isub, 1), (32, .istore 6, 2), (34, .iload 5, 2), (36, .aload_n 0, 1), (37, .getfield 33, 3), (40, .iload 4, 2), (42, .iaload, 1)]
set_option maxRecDepth 20000 in
theorem dn_85_0_0_ok : dn_85_0_0.all (fun q => decide (decode (xm_b n_85) q.1 = .ok (q.2.1, q.2.2))) = true := xa_g_ok (by decide +kernel)
def dn_85_0_1 : List (Nat × Instr × Nat) := [(43, .imul, 1), (44, .iload 6, 2), (46, .aload_n 0, 1), (47, .getfield 36, 3), (50, .iload 4, 2), (52, .iaload, 1), (53, .imul, 1), (54, .iadd, 1), (55, .istore 7, 2), (57, .iload 5, 2), (59, .aload_n 0, 1), (60, .getfield 36, 3), (63, .iload 4, 2), (65, .iaload, 1), (66, .imul, 1), (67, .iload 6, 2), (69, .aload_n 0, 1), (70, .getfield 33, 3), (73, .iload 4, 2), (75, .iaload, 1), (76, .imul, 1), (77, .isub, 1), (78, .invokestatic 105, 3), (81, .istore 8, 2), (83, .iload 7, 2)]
set_option maxRecDepth 20000 in
theorem dn_85_0_1_ok : dn_85_0_1.all (fun q => decide (decode (xm_b n_85) q.1 = .ok (q.2.1, q.2.2))) = true := xa_g_ok (by decide +kernel)
def dn_85_0_2 : List (Nat × Instr × Nat) := [(85, .iconst 0, 1), (86, .aload_n 0, 1), (87, .getfield 9, 3), (90, .iload 4, 2), (92, .iaload, 1), (93, .invokestatic 110, 3), (96, .ifCond .eq 25, 3), (99, .iload 8, 2), (101, .aload_n 0, 1), (102, .getfield 39, 3), (105, .iload 4, 2), (107, .iaload, 1), (108, .if_icmp .gt 13, 3), (111, .aload_n 0, 1), (112, .iload 4, 2), (114, .iload_n 1, 1), (115, .iload 7, 2), (117, .invokevirtual 86, 3), (120, .return_, 1), (121, .iinc 4 1, 3), (124, .goto (-121), 3), (127, .aload_n 0, 1), (128, .iload_n 1, 1), (129, .iload_n 2, 1), (130, .iload_n 3, 1)]
set_option maxRecDepth 20000 in
theorem dn_85_0_2_ok : dn_85_0_2.all (fun q => decide (decode (xm_b n_85) q.1 = .ok (q.2.1, q.2.2))) = true := xa_g_ok (by decide +kernel)
def dn_85_0_3 : List (Nat × Instr × Nat) := [(131, .invokevirtual 90, 3), (134, .return_, 1)]
set_option maxRecDepth 20000 in
theorem dn_85_0_3_ok : dn_85_0_3.all (fun q => decide (decode (xm_b n_85) q.1 = .ok (q.2.1, q.2.2))) = true := xa_g_ok (by decide +kernel)
def te_85_0 : Nat → eE := (e_T 31 (e_T 14 (e_T 5 (e_T 1 (e_T 0 (e_L 0 (0, ei_push (0, 0) 1, 0, 0)) (e_L 1 (0, ei_stor 4 0 3, 0, 0))) (e_T 3 (e_L 3 (0, ei_load 4 0 5, 0, 0)) (e_L 5 (0, ei_load 0 2 6, 0, 0)))) (e_T 9 (e_T 6 (e_L 6 (0, ei_getf eft elay 4 0 9, 0, 0)) (e_L 9 (0, ei_if2 3 127 12, 0, 0))) (e_T 12 (e_L 12 (0, ei_load 2 0 13, 0, 0)) (e_T 13 (e_L 13 (0, ei_load 0 2 14, 0, 0)) (e_L 14 (0, ei_getf eft elay 4 7 17, 0, 0)))))) (e_T 23 (e_T 19 (e_T 17 (e_L 17 (0, ei_load 4 0 19, 0, 0)) (e_L 19 (0, ei_ald elay false 20, 0, 0))) (e_T 20 (e_L 20 (0, ei_bin eF_sub 21, 0, 0)) (e_T 21 (e_L 21 (0, ei_stor 5 0 23, 0, 0)) (e_L 23 (0, ei_load 3 0 24, 0, 0))))) (e_T 25 (e_T 24 (e_L 24 (0, ei_load 0 2 25, 0, 0)) (e_L 25 (0, ei_getf eft elay 4 8 28, 0, 0))) (e_T 28 (e_L 28 (0, ei_load 4 0 30, 0, 0)) (e_T 30 (e_L 30 (0, ei_ald elay false 31, 0, 0)) (e_L 31 (0, ei_bin eF_sub 32, 0, 0))))))) (e_T 46 (e_T 37 (e_T 34 (e_T 32 (e_L 32 (0, ei_stor 6 0 34, 0, 0)) (e_L 34 (0, ei_load 5 0 36, 0, 0))) (e_T 36 (e_L 36 (0, ei_load 0 2 37, 0, 0)) (e_L 37 (0, ei_getf eft elay 4 9 40, 0, 0)))) (e_T 42 (e_T 40 (e_L 40 (0, ei_load 4 0 42, 0, 0)) (e_L 42 (0, ei_ald elay false 43, 0, 0))) (e_T 43 (e_L 43 (0, ei_bin eF_mul 44, 0, 0)) (e_T 44 (e_L 44 (0, ei_load 6 0 46, 0, 0)) (e_L 46 (0, ei_load 0 2 47, 0, 0)))))) (e_T 54 (e_T 50 (e_T 47 (e_L 47 (0, ei_getf eft elay 4 10 50, 0, 0)) (e_L 50 (0, ei_load 4 0 52, 0, 0))) (e_T 52 (e_L 52 (0, ei_ald elay false 53, 0, 0)) (e_T 53 (e_L 53 (0, ei_bin eF_mul 54, 0, 0)) (e_L 54 (0, ei_bin eF_add 55, 0, 0))))) (e_T 57 (e_T 55 (e_L 55 (0, ei_stor 7 0 57, 0, 0)) (e_L 57 (0, ei_load 5 0 59, 0, 0))) (e_T 59 (e_L 59 (0, ei_load 0 2 60, 0, 0)) (e_T 60 (e_L 60 (0, ei_getf eft elay 4 10 63, 0, 0)) (e_L 63 (0, ei_load 4 0 65, 0, 0))))))))
set_option maxRecDepth 20000 in
set_option maxHeartbeats 4000000 in
theorem te_85_0_ok : ∀ pc, e_EOq eft cls elay eI n_85 pc (te_85_0 pc) :=
  (e_Tok2
  (e_Tok2
  (e_Tok2
  (e_Tok2
  (e_Tok2
  (e_Lok (ps_iconst_0 (x_dk dn_85_0_0_ok 0 rfl)))
  (e_Lok (e_st (I := eI) (er_istore (i := 4) (x_dk dn_85_0_0_ok 1 rfl) (by decide +kernel)) nx_stor)))
  (e_Tok2
  (e_Lok (ld_iload_4 (x_dk dn_85_0_0_ok 2 rfl)))
  (e_Lok (ld_aload_n_0 (x_dk dn_85_0_0_ok 3 rfl)))))
  (e_Tok2
  (e_Tok2
  (e_Lok (lk_4_68g ho_85 (x_dk dn_85_0_0_ok 4 rfl)))
  (e_Lok (e_st (I := eI) (er_icmpge (off := 118) (tg := 127) (x_dk dn_85_0_0_ok 5 rfl) (by decide)) nx_if2)))
  (e_Tok2
  (e_Lok (ld_iload_n_2 (x_dk dn_85_0_0_ok 6 rfl)))
  (e_Tok2
  (e_Lok (ld_aload_n_0 (x_dk dn_85_0_0_ok 7 rfl)))
  (e_Lok (lk_4_27g ho_85 (x_dk dn_85_0_0_ok 8 rfl)))))))
  (e_Tok2
  (e_Tok2
  (e_Tok2
  (e_Lok (ld_iload_4 (x_dk dn_85_0_0_ok 9 rfl)))
  (e_Lok (sm_iaload (x_dk dn_85_0_0_ok 10 rfl))))
  (e_Tok2
  (e_Lok (sm_isub (x_dk dn_85_0_0_ok 11 rfl)))
  (e_Tok2
  (e_Lok (e_st (I := eI) (er_istore (i := 5) (x_dk dn_85_0_0_ok 12 rfl) (by decide +kernel)) nx_stor))
  (e_Lok (ld_iload_n_3 (x_dk dn_85_0_0_ok 13 rfl))))))
  (e_Tok2
  (e_Tok2
  (e_Lok (ld_aload_n_0 (x_dk dn_85_0_0_ok 14 rfl)))
  (e_Lok (lk_4_30g ho_85 (x_dk dn_85_0_0_ok 15 rfl))))
  (e_Tok2
  (e_Lok (ld_iload_4 (x_dk dn_85_0_0_ok 16 rfl)))
  (e_Tok2
  (e_Lok (sm_iaload (x_dk dn_85_0_0_ok 17 rfl)))
  (e_Lok (sm_isub (x_dk dn_85_0_0_ok 18 rfl))))))))
  (e_Tok2
  (e_Tok2
  (e_Tok2
  (e_Tok2
  (e_Lok (e_st (I := eI) (er_istore (i := 6) (x_dk dn_85_0_0_ok 19 rfl) (by decide +kernel)) nx_stor))
  (e_Lok (ld_iload_5 (x_dk dn_85_0_0_ok 20 rfl))))
  (e_Tok2
  (e_Lok (ld_aload_n_0 (x_dk dn_85_0_0_ok 21 rfl)))
  (e_Lok (lk_4_33g ho_85 (x_dk dn_85_0_0_ok 22 rfl)))))
  (e_Tok2
  (e_Tok2
  (e_Lok (ld_iload_4 (x_dk dn_85_0_0_ok 23 rfl)))
  (e_Lok (sm_iaload (x_dk dn_85_0_0_ok 24 rfl))))
  (e_Tok2
  (e_Lok (sm_imul (x_dk dn_85_0_1_ok 0 rfl)))
  (e_Tok2
  (e_Lok (ld_iload_6 (x_dk dn_85_0_1_ok 1 rfl)))
  (e_Lok (ld_aload_n_0 (x_dk dn_85_0_1_ok 2 rfl)))))))
  (e_Tok2
  (e_Tok2
  (e_Tok2
  (e_Lok (lk_4_36g ho_85 (x_dk dn_85_0_1_ok 3 rfl)))
  (e_Lok (ld_iload_4 (x_dk dn_85_0_1_ok 4 rfl))))
  (e_Tok2
  (e_Lok (sm_iaload (x_dk dn_85_0_1_ok 5 rfl)))
  (e_Tok2
  (e_Lok (sm_imul (x_dk dn_85_0_1_ok 6 rfl)))
  (e_Lok (sm_iadd (x_dk dn_85_0_1_ok 7 rfl))))))
  (e_Tok2
  (e_Tok2
  (e_Lok (e_st (I := eI) (er_istore (i := 7) (x_dk dn_85_0_1_ok 8 rfl) (by decide +kernel)) nx_stor))
  (e_Lok (ld_iload_5 (x_dk dn_85_0_1_ok 9 rfl))))
  (e_Tok2
  (e_Lok (ld_aload_n_0 (x_dk dn_85_0_1_ok 10 rfl)))
  (e_Tok2
  (e_Lok (lk_4_36g ho_85 (x_dk dn_85_0_1_ok 11 rfl)))
  (e_Lok (ld_iload_4 (x_dk dn_85_0_1_ok 12 rfl)))))))))
def te_85_38 : Nat → eE := (e_T 96 (e_T 77 (e_T 69 (e_T 66 (e_T 65 (e_L 65 (0, ei_ald elay false 66, 0, 0)) (e_L 66 (0, ei_bin eF_mul 67, 0, 0))) (e_T 67 (e_L 67 (0, ei_load 6 0 69, 0, 0)) (e_L 69 (0, ei_load 0 2 70, 0, 0)))) (e_T 73 (e_T 70 (e_L 70 (0, ei_getf eft elay 4 9 73, 0, 0)) (e_L 73 (0, ei_load 4 0 75, 0, 0))) (e_T 75 (e_L 75 (0, ei_ald elay false 76, 0, 0)) (e_T 76 (e_L 76 (0, ei_bin eF_mul 77, 0, 0)) (e_L 77 (0, ei_bin eF_sub 78, 0, 0)))))) (e_T 86 (e_T 81 (e_T 78 (e_L 78 (0, ei_abs 81, 0, 0)) (e_L 81 (0, ei_stor 8 0 83, 0, 0))) (e_T 83 (e_L 83 (0, ei_load 7 0 85, 0, 0)) (e_T 85 (e_L 85 (0, ei_push (0, 0) 86, 0, 0)) (e_L 86 (0, ei_load 0 2 87, 0, 0))))) (e_T 90 (e_T 87 (e_L 87 (0, ei_getf eft elay 4 2 90, 0, 0)) (e_L 90 (0, ei_load 4 0 92, 0, 0))) (e_T 92 (e_L 92 (0, ei_ald elay false 93, 0, 0)) (e_T 93 (e_L 93 (2, e_nof, 242, 3)) (e_L 96 (0, ei_if1 0 121 99, 0, 0))))))) (e_T 115 (e_T 107 (e_T 101 (e_T 99 (e_L 99 (0, ei_load 8 0 101, 0, 0)) (e_L 101 (0, ei_load 0 2 102, 0, 0))) (e_T 102 (e_L 102 (0, ei_getf eft elay 4 11 105, 0, 0)) (e_T 105 (e_L 105 (0, ei_load 4 0 107, 0, 0)) (e_L 107 (0, ei_ald elay false 108, 0, 0))))) (e_T 111 (e_T 108 (e_L 108 (0, ei_if2 4 121 111, 0, 0)) (e_L 111 (0, ei_load 0 2 112, 0, 0))) (e_T 112 (e_L 112 (0, ei_load 4 0 114, 0, 0)) (e_T 114 (e_L 114 (0, ei_load 1 0 115, 0, 0)) (e_L 115 (0, ei_load 7 0 117, 0, 0)))))) (e_T 127 (e_T 120 (e_T 117 (e_L 117 (2, e_nof, 80, 4)) (e_L 120 (1, e_nof, 0, 0))) (e_T 121 (e_L 121 (0, ei_inc 4 1 124, 0, 0)) (e_T 124 (e_L 124 (0, ei_goto 3, 0, 0)) (e_L 127 (0, ei_load 0 2 128, 0, 0))))) (e_T 129 (e_T 128 (e_L 128 (0, ei_load 1 0 129, 0, 0)) (e_L 129 (0, ei_load 2 0 130, 0, 0))) (e_T 130 (e_L 130 (0, ei_load 3 0 131, 0, 0)) (e_T 131 (e_L 131 (2, e_nof, 79, 4)) (e_L 134 (1, e_nof, 0, 0))))))))
set_option maxRecDepth 20000 in
set_option maxHeartbeats 4000000 in
theorem te_85_38_ok : ∀ pc, e_EOq eft cls elay eI n_85 pc (te_85_38 pc) :=
  (e_Tok2
  (e_Tok2
  (e_Tok2
  (e_Tok2
  (e_Tok2
  (e_Lok (sm_iaload (x_dk dn_85_0_1_ok 13 rfl)))
  (e_Lok (sm_imul (x_dk dn_85_0_1_ok 14 rfl))))
  (e_Tok2
  (e_Lok (ld_iload_6 (x_dk dn_85_0_1_ok 15 rfl)))
  (e_Lok (ld_aload_n_0 (x_dk dn_85_0_1_ok 16 rfl)))))
  (e_Tok2
  (e_Tok2
  (e_Lok (lk_4_33g ho_85 (x_dk dn_85_0_1_ok 17 rfl)))
  (e_Lok (ld_iload_4 (x_dk dn_85_0_1_ok 18 rfl))))
  (e_Tok2
  (e_Lok (sm_iaload (x_dk dn_85_0_1_ok 19 rfl)))
  (e_Tok2
  (e_Lok (sm_imul (x_dk dn_85_0_1_ok 20 rfl)))
  (e_Lok (sm_isub (x_dk dn_85_0_1_ok 21 rfl)))))))
  (e_Tok2
  (e_Tok2
  (e_Tok2
  (e_Lok (e_st (I := eI) (er_abs (ix := 105) (in_t7 (List.mem_of_getElem? (i := 223) rfl) rfl) (in_t7 (List.mem_of_getElem? (i := 224) rfl) rfl) (in_t1 (List.mem_of_getElem? (i := 15) rfl) rfl) (in_t7 (List.mem_of_getElem? (i := 225) rfl) rfl) (x_dk dn_85_0_1_ok 22 rfl)) nx_abs))
  (e_Lok (e_st (I := eI) (er_istore (i := 8) (x_dk dn_85_0_1_ok 23 rfl) (by decide +kernel)) nx_stor)))
  (e_Tok2
  (e_Lok (ld_iload_7 (x_dk dn_85_0_1_ok 24 rfl)))
  (e_Tok2
  (e_Lok (ps_iconst_0 (x_dk dn_85_0_2_ok 0 rfl)))
  (e_Lok (ld_aload_n_0 (x_dk dn_85_0_2_ok 1 rfl))))))
  (e_Tok2
  (e_Tok2
  (e_Lok (lk_4_9g ho_85 (x_dk dn_85_0_2_ok 2 rfl)))
  (e_Lok (ld_iload_4 (x_dk dn_85_0_2_ok 3 rfl))))
  (e_Tok2
  (e_Lok (sm_iaload (x_dk dn_85_0_2_ok 4 rfl)))
  (e_Tok2
  (e_Lok (lk_4_110 ho_85 (x_dk dn_85_0_2_ok 5 rfl)))
  (e_Lok (e_st (I := eI) (er_ifeq (off := 25) (tg := 121) (x_dk dn_85_0_2_ok 6 rfl) (by decide)) nx_if1)))))))
  (e_Tok2
  (e_Tok2
  (e_Tok2
  (e_Tok2
  (e_Lok (ld_iload_8 (x_dk dn_85_0_2_ok 7 rfl)))
  (e_Lok (ld_aload_n_0 (x_dk dn_85_0_2_ok 8 rfl))))
  (e_Tok2
  (e_Lok (lk_4_39g ho_85 (x_dk dn_85_0_2_ok 9 rfl)))
  (e_Tok2
  (e_Lok (ld_iload_4 (x_dk dn_85_0_2_ok 10 rfl)))
  (e_Lok (sm_iaload (x_dk dn_85_0_2_ok 11 rfl))))))
  (e_Tok2
  (e_Tok2
  (e_Lok (e_st (I := eI) (er_icmpgt (off := 13) (tg := 121) (x_dk dn_85_0_2_ok 12 rfl) (by decide)) nx_if2))
  (e_Lok (ld_aload_n_0 (x_dk dn_85_0_2_ok 13 rfl))))
  (e_Tok2
  (e_Lok (ld_iload_4 (x_dk dn_85_0_2_ok 14 rfl)))
  (e_Tok2
  (e_Lok (ld_iload_n_1 (x_dk dn_85_0_2_ok 15 rfl)))
  (e_Lok (ld_iload_7 (x_dk dn_85_0_2_ok 16 rfl)))))))
  (e_Tok2
  (e_Tok2
  (e_Tok2
  (e_Lok (lk_4_86 ho_85 (x_dk dn_85_0_2_ok 17 rfl)))
  (e_Lok (e_rt (I := eI) (k := 0) ⟨(x_dk dn_85_0_2_ok 18 rfl), rfl⟩)))
  (e_Tok2
  (e_Lok (e_st (I := eI) (er_iinc (i := 4) (n := 1) (x_dk dn_85_0_2_ok 19 rfl) (by decide +kernel) (by decide)) nx_inc))
  (e_Tok2
  (e_Lok (e_st (I := eI) (er_goto (off := (-121)) (tg := 3) (x_dk dn_85_0_2_ok 20 rfl) (by decide)) nx_goto))
  (e_Lok (ld_aload_n_0 (x_dk dn_85_0_2_ok 21 rfl))))))
  (e_Tok2
  (e_Tok2
  (e_Lok (ld_iload_n_1 (x_dk dn_85_0_2_ok 22 rfl)))
  (e_Lok (ld_iload_n_2 (x_dk dn_85_0_2_ok 23 rfl))))
  (e_Tok2
  (e_Lok (ld_iload_n_3 (x_dk dn_85_0_2_ok 24 rfl)))
  (e_Tok2
  (e_Lok (lk_4_90 ho_85 (x_dk dn_85_0_3_ok 0 rfl)))
  (e_Lok (e_rt (I := eI) (k := 0) ⟨(x_dk dn_85_0_3_ok 1 rfl), rfl⟩))))))))
def te_85 : Nat → eE := (e_T 63 te_85_0 te_85_38)
theorem te_85_ok : ∀ pc, e_EOq eft cls elay eI n_85 pc (te_85 pc) := (e_Tok2 (te_85_0_ok) (te_85_38_ok))
theorem ho_86 : (xm_y n_86).cls = "RobotCellHouse$Floor" := rfl
def dn_86_0_0 : List (Nat × Instr × Nat) := [(0, .iconst 0, 1), (1, .istore_n 2, 1), (2, .iload_n 2, 1), (3, .aload_n 0, 1), (4, .getfield 47, 3), (7, .iload_n 1, 1), (8, .iaload, 1), (9, .if_icmp .ge 104, 3), (12, .aload_n 0, 1), (13, .getfield 44, 3), (16, .iload_n 1, 1), (17, .aaload, 1), (18, .iload_n 2, 1), (19, .iaload, 1), (20, .istore_n 3, 1), (21, .aload_n 0, 1), (22, .getfield 53, 3), (25, .iload_n 3, 1), (26, .iaload, 1), (27, .aload_n 0, 1), (28, .getfield 15, 3), (31, .iload_n 1, 1), (32, .iaload, 1), (33, .iadd, 1), (34, .aload_n 0, 1)]
set_option maxRecDepth 20000 in
theorem dn_86_0_0_ok : dn_86_0_0.all (fun q => decide (decode (xm_b n_86) q.1 = .ok (q.2.1, q.2.2))) = true := xa_g_ok (by decide +kernel)
def dn_86_0_1 : List (Nat × Instr × Nat) := [(35, .getfield 9, 3), (38, .iload_n 1, 1), (39, .iaload, 1), (40, .invokestatic 114, 3), (43, .istore 4, 2), (45, .iload_n 2, 1), (46, .ifCond .le 44, 3), (49, .aload_n 0, 1), (50, .getfield 44, 3), (53, .iload_n 1, 1), (54, .aaload, 1), (55, .iload_n 2, 1), (56, .iconst 1, 1), (57, .isub, 1), (58, .iaload, 1), (59, .istore 5, 2), (61, .iload 4, 2), (63, .aload_n 0, 1), (64, .getfield 53, 3), (67, .iload 5, 2), (69, .iaload, 1), (70, .aload_n 0, 1), (71, .getfield 56, 3), (74, .iload 5, 2), (76, .iaload, 1)]
set_option maxRecDepth 20000 in
theorem dn_86_0_1_ok : dn_86_0_1.all (fun q => decide (decode (xm_b n_86) q.1 = .ok (q.2.1, q.2.2))) = true := xa_g_ok (by decide +kernel)
def dn_86_0_2 : List (Nat × Instr × Nat) := [(77, .isub, 1), (78, .aload_n 0, 1), (79, .getfield 56, 3), (82, .iload_n 3, 1), (83, .iaload, 1), (84, .isub, 1), (85, .invokestatic 114, 3), (88, .istore 4, 2), (90, .aload_n 0, 1), (91, .getfield 53, 3), (94, .iload_n 3, 1), (95, .aload_n 0, 1), (96, .getfield 53, 3), (99, .iload_n 3, 1), (100, .iaload, 1), (101, .iload 4, 2), (103, .invokestatic 118, 3), (106, .iastore, 1), (107, .iinc 2 1, 3), (110, .goto (-108), 3), (113, .return_, 1)]
set_option maxRecDepth 20000 in
theorem dn_86_0_2_ok : dn_86_0_2.all (fun q => decide (decode (xm_b n_86) q.1 = .ok (q.2.1, q.2.2))) = true := xa_g_ok (by decide +kernel)
def te_86_0 : Nat → eE := (e_T 22 (e_T 9 (e_T 3 (e_T 1 (e_T 0 (e_L 0 (0, ei_push (0, 0) 1, 0, 0)) (e_L 1 (0, ei_stor 2 0 2, 0, 0))) (e_T 2 (e_L 2 (0, ei_load 2 0 3, 0, 0)) (e_L 3 (0, ei_load 0 2 4, 0, 0)))) (e_T 7 (e_T 4 (e_L 4 (0, ei_getf eft elay 4 13 7, 0, 0)) (e_L 7 (0, ei_load 1 0 8, 0, 0))) (e_T 8 (e_L 8 (0, ei_ald elay false 9, 0, 0)) (e_L 9 (0, ei_if2 3 113 12, 0, 0))))) (e_T 17 (e_T 13 (e_T 12 (e_L 12 (0, ei_load 0 2 13, 0, 0)) (e_L 13 (0, ei_getf eft elay 4 12 16, 0, 0))) (e_T 16 (e_L 16 (0, ei_load 1 0 17, 0, 0)) (e_L 17 (0, ei_aald elay 18, 0, 0)))) (e_T 19 (e_T 18 (e_L 18 (0, ei_load 2 0 19, 0, 0)) (e_L 19 (0, ei_ald elay false 20, 0, 0))) (e_T 20 (e_L 20 (0, ei_stor 3 0 21, 0, 0)) (e_T 21 (e_L 21 (0, ei_load 0 2 22, 0, 0)) (e_L 22 (0, ei_getf eft elay 4 15 25, 0, 0))))))) (e_T 35 (e_T 28 (e_T 26 (e_T 25 (e_L 25 (0, ei_load 3 0 26, 0, 0)) (e_L 26 (0, ei_ald elay false 27, 0, 0))) (e_T 27 (e_L 27 (0, ei_load 0 2 28, 0, 0)) (e_L 28 (0, ei_getf eft elay 4 3 31, 0, 0)))) (e_T 32 (e_T 31 (e_L 31 (0, ei_load 1 0 32, 0, 0)) (e_L 32 (0, ei_ald elay false 33, 0, 0))) (e_T 33 (e_L 33 (0, ei_bin eF_add 34, 0, 0)) (e_T 34 (e_L 34 (0, ei_load 0 2 35, 0, 0)) (e_L 35 (0, ei_getf eft elay 4 2 38, 0, 0)))))) (e_T 43 (e_T 39 (e_T 38 (e_L 38 (0, ei_load 1 0 39, 0, 0)) (e_L 39 (0, ei_ald elay false 40, 0, 0))) (e_T 40 (e_L 40 (0, ei_m2 eM_min 43, 0, 0)) (e_L 43 (0, ei_stor 4 0 45, 0, 0)))) (e_T 46 (e_T 45 (e_L 45 (0, ei_load 2 0 46, 0, 0)) (e_L 46 (0, ei_if1 5 90 49, 0, 0))) (e_T 49 (e_L 49 (0, ei_load 0 2 50, 0, 0)) (e_T 50 (e_L 50 (0, ei_getf eft elay 4 12 53, 0, 0)) (e_L 53 (0, ei_load 1 0 54, 0, 0))))))))
set_option maxRecDepth 20000 in
set_option maxHeartbeats 4000000 in
theorem te_86_0_ok : ∀ pc, e_EOq eft cls elay eI n_86 pc (te_86_0 pc) :=
  (e_Tok2
  (e_Tok2
  (e_Tok2
  (e_Tok2
  (e_Tok2
  (e_Lok (ps_iconst_0 (x_dk dn_86_0_0_ok 0 rfl)))
  (e_Lok (e_st (I := eI) (er_istore_n (i := 2) (x_dk dn_86_0_0_ok 1 rfl) (by decide +kernel)) nx_stor)))
  (e_Tok2
  (e_Lok (ld_iload_n_2 (x_dk dn_86_0_0_ok 2 rfl)))
  (e_Lok (ld_aload_n_0 (x_dk dn_86_0_0_ok 3 rfl)))))
  (e_Tok2
  (e_Tok2
  (e_Lok (lk_4_47g ho_86 (x_dk dn_86_0_0_ok 4 rfl)))
  (e_Lok (ld_iload_n_1 (x_dk dn_86_0_0_ok 5 rfl))))
  (e_Tok2
  (e_Lok (sm_iaload (x_dk dn_86_0_0_ok 6 rfl)))
  (e_Lok (e_st (I := eI) (er_icmpge (off := 104) (tg := 113) (x_dk dn_86_0_0_ok 7 rfl) (by decide)) nx_if2)))))
  (e_Tok2
  (e_Tok2
  (e_Tok2
  (e_Lok (ld_aload_n_0 (x_dk dn_86_0_0_ok 8 rfl)))
  (e_Lok (lk_4_44g ho_86 (x_dk dn_86_0_0_ok 9 rfl))))
  (e_Tok2
  (e_Lok (ld_iload_n_1 (x_dk dn_86_0_0_ok 10 rfl)))
  (e_Lok (e_st (I := eI) (er_aaload (x_dk dn_86_0_0_ok 11 rfl)) nx_aald))))
  (e_Tok2
  (e_Tok2
  (e_Lok (ld_iload_n_2 (x_dk dn_86_0_0_ok 12 rfl)))
  (e_Lok (sm_iaload (x_dk dn_86_0_0_ok 13 rfl))))
  (e_Tok2
  (e_Lok (e_st (I := eI) (er_istore_n (i := 3) (x_dk dn_86_0_0_ok 14 rfl) (by decide +kernel)) nx_stor))
  (e_Tok2
  (e_Lok (ld_aload_n_0 (x_dk dn_86_0_0_ok 15 rfl)))
  (e_Lok (lk_4_53g ho_86 (x_dk dn_86_0_0_ok 16 rfl))))))))
  (e_Tok2
  (e_Tok2
  (e_Tok2
  (e_Tok2
  (e_Lok (ld_iload_n_3 (x_dk dn_86_0_0_ok 17 rfl)))
  (e_Lok (sm_iaload (x_dk dn_86_0_0_ok 18 rfl))))
  (e_Tok2
  (e_Lok (ld_aload_n_0 (x_dk dn_86_0_0_ok 19 rfl)))
  (e_Lok (lk_4_15g ho_86 (x_dk dn_86_0_0_ok 20 rfl)))))
  (e_Tok2
  (e_Tok2
  (e_Lok (ld_iload_n_1 (x_dk dn_86_0_0_ok 21 rfl)))
  (e_Lok (sm_iaload (x_dk dn_86_0_0_ok 22 rfl))))
  (e_Tok2
  (e_Lok (sm_iadd (x_dk dn_86_0_0_ok 23 rfl)))
  (e_Tok2
  (e_Lok (ld_aload_n_0 (x_dk dn_86_0_0_ok 24 rfl)))
  (e_Lok (lk_4_9g ho_86 (x_dk dn_86_0_1_ok 0 rfl)))))))
  (e_Tok2
  (e_Tok2
  (e_Tok2
  (e_Lok (ld_iload_n_1 (x_dk dn_86_0_1_ok 1 rfl)))
  (e_Lok (sm_iaload (x_dk dn_86_0_1_ok 2 rfl))))
  (e_Tok2
  (e_Lok (e_st (I := eI) (er_min (ix := 114) (in_t8 (List.mem_of_getElem? (i := 144) rfl) rfl) (in_t5 (List.mem_of_getElem? (i := 187) rfl) rfl) (in_t1 (List.mem_of_getElem? (i := 15) rfl) rfl) (in_t5 (List.mem_of_getElem? (i := 188) rfl) rfl) (x_dk dn_86_0_1_ok 3 rfl)) nx_m2))
  (e_Lok (e_st (I := eI) (er_istore (i := 4) (x_dk dn_86_0_1_ok 4 rfl) (by decide +kernel)) nx_stor))))
  (e_Tok2
  (e_Tok2
  (e_Lok (ld_iload_n_2 (x_dk dn_86_0_1_ok 5 rfl)))
  (e_Lok (e_st (I := eI) (er_ifle (off := 44) (tg := 90) (x_dk dn_86_0_1_ok 6 rfl) (by decide)) nx_if1)))
  (e_Tok2
  (e_Lok (ld_aload_n_0 (x_dk dn_86_0_1_ok 7 rfl)))
  (e_Tok2
  (e_Lok (lk_4_44g ho_86 (x_dk dn_86_0_1_ok 8 rfl)))
  (e_Lok (ld_iload_n_1 (x_dk dn_86_0_1_ok 9 rfl)))))))))
def te_86_35 : Nat → eE := (e_T 79 (e_T 64 (e_T 57 (e_T 55 (e_T 54 (e_L 54 (0, ei_aald elay 55, 0, 0)) (e_L 55 (0, ei_load 2 0 56, 0, 0))) (e_T 56 (e_L 56 (0, ei_push (0, 1) 57, 0, 0)) (e_L 57 (0, ei_bin eF_sub 58, 0, 0)))) (e_T 59 (e_T 58 (e_L 58 (0, ei_ald elay false 59, 0, 0)) (e_L 59 (0, ei_stor 5 0 61, 0, 0))) (e_T 61 (e_L 61 (0, ei_load 4 0 63, 0, 0)) (e_T 63 (e_L 63 (0, ei_load 0 2 64, 0, 0)) (e_L 64 (0, ei_getf eft elay 4 15 67, 0, 0)))))) (e_T 71 (e_T 69 (e_T 67 (e_L 67 (0, ei_load 5 0 69, 0, 0)) (e_L 69 (0, ei_ald elay false 70, 0, 0))) (e_T 70 (e_L 70 (0, ei_load 0 2 71, 0, 0)) (e_L 71 (0, ei_getf eft elay 4 16 74, 0, 0)))) (e_T 76 (e_T 74 (e_L 74 (0, ei_load 5 0 76, 0, 0)) (e_L 76 (0, ei_ald elay false 77, 0, 0))) (e_T 77 (e_L 77 (0, ei_bin eF_sub 78, 0, 0)) (e_T 78 (e_L 78 (0, ei_load 0 2 79, 0, 0)) (e_L 79 (0, ei_getf eft elay 4 16 82, 0, 0))))))) (e_T 95 (e_T 85 (e_T 83 (e_T 82 (e_L 82 (0, ei_load 3 0 83, 0, 0)) (e_L 83 (0, ei_ald elay false 84, 0, 0))) (e_T 84 (e_L 84 (0, ei_bin eF_sub 85, 0, 0)) (e_L 85 (0, ei_m2 eM_min 88, 0, 0)))) (e_T 90 (e_T 88 (e_L 88 (0, ei_stor 4 0 90, 0, 0)) (e_L 90 (0, ei_load 0 2 91, 0, 0))) (e_T 91 (e_L 91 (0, ei_getf eft elay 4 15 94, 0, 0)) (e_T 94 (e_L 94 (0, ei_load 3 0 95, 0, 0)) (e_L 95 (0, ei_load 0 2 96, 0, 0)))))) (e_T 101 (e_T 99 (e_T 96 (e_L 96 (0, ei_getf eft elay 4 15 99, 0, 0)) (e_L 99 (0, ei_load 3 0 100, 0, 0))) (e_T 100 (e_L 100 (0, ei_ald elay false 101, 0, 0)) (e_L 101 (0, ei_load 4 0 103, 0, 0)))) (e_T 106 (e_T 103 (e_L 103 (0, ei_m2 eM_max 106, 0, 0)) (e_L 106 (0, ei_ast elay false 107, 0, 0))) (e_T 107 (e_L 107 (0, ei_inc 2 1 110, 0, 0)) (e_T 110 (e_L 110 (0, ei_goto 2, 0, 0)) (e_L 113 (1, e_nof, 0, 0))))))))
set_option maxRecDepth 20000 in
set_option maxHeartbeats 4000000 in
theorem te_86_35_ok : ∀ pc, e_EOq eft cls elay eI n_86 pc (te_86_35 pc) :=
  (e_Tok2
  (e_Tok2
  (e_Tok2
  (e_Tok2
  (e_Tok2
  (e_Lok (e_st (I := eI) (er_aaload (x_dk dn_86_0_1_ok 10 rfl)) nx_aald))
  (e_Lok (ld_iload_n_2 (x_dk dn_86_0_1_ok 11 rfl))))
  (e_Tok2
  (e_Lok (ps_iconst_1 (x_dk dn_86_0_1_ok 12 rfl)))
  (e_Lok (sm_isub (x_dk dn_86_0_1_ok 13 rfl)))))
  (e_Tok2
  (e_Tok2
  (e_Lok (sm_iaload (x_dk dn_86_0_1_ok 14 rfl)))
  (e_Lok (e_st (I := eI) (er_istore (i := 5) (x_dk dn_86_0_1_ok 15 rfl) (by decide +kernel)) nx_stor)))
  (e_Tok2
  (e_Lok (ld_iload_4 (x_dk dn_86_0_1_ok 16 rfl)))
  (e_Tok2
  (e_Lok (ld_aload_n_0 (x_dk dn_86_0_1_ok 17 rfl)))
  (e_Lok (lk_4_53g ho_86 (x_dk dn_86_0_1_ok 18 rfl)))))))
  (e_Tok2
  (e_Tok2
  (e_Tok2
  (e_Lok (ld_iload_5 (x_dk dn_86_0_1_ok 19 rfl)))
  (e_Lok (sm_iaload (x_dk dn_86_0_1_ok 20 rfl))))
  (e_Tok2
  (e_Lok (ld_aload_n_0 (x_dk dn_86_0_1_ok 21 rfl)))
  (e_Lok (lk_4_56g ho_86 (x_dk dn_86_0_1_ok 22 rfl)))))
  (e_Tok2
  (e_Tok2
  (e_Lok (ld_iload_5 (x_dk dn_86_0_1_ok 23 rfl)))
  (e_Lok (sm_iaload (x_dk dn_86_0_1_ok 24 rfl))))
  (e_Tok2
  (e_Lok (sm_isub (x_dk dn_86_0_2_ok 0 rfl)))
  (e_Tok2
  (e_Lok (ld_aload_n_0 (x_dk dn_86_0_2_ok 1 rfl)))
  (e_Lok (lk_4_56g ho_86 (x_dk dn_86_0_2_ok 2 rfl))))))))
  (e_Tok2
  (e_Tok2
  (e_Tok2
  (e_Tok2
  (e_Lok (ld_iload_n_3 (x_dk dn_86_0_2_ok 3 rfl)))
  (e_Lok (sm_iaload (x_dk dn_86_0_2_ok 4 rfl))))
  (e_Tok2
  (e_Lok (sm_isub (x_dk dn_86_0_2_ok 5 rfl)))
  (e_Lok (e_st (I := eI) (er_min (ix := 114) (in_t8 (List.mem_of_getElem? (i := 144) rfl) rfl) (in_t5 (List.mem_of_getElem? (i := 187) rfl) rfl) (in_t1 (List.mem_of_getElem? (i := 15) rfl) rfl) (in_t5 (List.mem_of_getElem? (i := 188) rfl) rfl) (x_dk dn_86_0_2_ok 6 rfl)) nx_m2))))
  (e_Tok2
  (e_Tok2
  (e_Lok (e_st (I := eI) (er_istore (i := 4) (x_dk dn_86_0_2_ok 7 rfl) (by decide +kernel)) nx_stor))
  (e_Lok (ld_aload_n_0 (x_dk dn_86_0_2_ok 8 rfl))))
  (e_Tok2
  (e_Lok (lk_4_53g ho_86 (x_dk dn_86_0_2_ok 9 rfl)))
  (e_Tok2
  (e_Lok (ld_iload_n_3 (x_dk dn_86_0_2_ok 10 rfl)))
  (e_Lok (ld_aload_n_0 (x_dk dn_86_0_2_ok 11 rfl)))))))
  (e_Tok2
  (e_Tok2
  (e_Tok2
  (e_Lok (lk_4_53g ho_86 (x_dk dn_86_0_2_ok 12 rfl)))
  (e_Lok (ld_iload_n_3 (x_dk dn_86_0_2_ok 13 rfl))))
  (e_Tok2
  (e_Lok (sm_iaload (x_dk dn_86_0_2_ok 14 rfl)))
  (e_Lok (ld_iload_4 (x_dk dn_86_0_2_ok 15 rfl)))))
  (e_Tok2
  (e_Tok2
  (e_Lok (e_st (I := eI) (er_max (ix := 118) (in_t8 (List.mem_of_getElem? (i := 145) rfl) rfl) (in_t5 (List.mem_of_getElem? (i := 184) rfl) rfl) (in_t1 (List.mem_of_getElem? (i := 15) rfl) rfl) (in_t5 (List.mem_of_getElem? (i := 185) rfl) rfl) (x_dk dn_86_0_2_ok 16 rfl)) nx_m2))
  (e_Lok (sm_iastore (x_dk dn_86_0_2_ok 17 rfl))))
  (e_Tok2
  (e_Lok (e_st (I := eI) (er_iinc (i := 2) (n := 1) (x_dk dn_86_0_2_ok 18 rfl) (by decide +kernel) (by decide)) nx_inc))
  (e_Tok2
  (e_Lok (e_st (I := eI) (er_goto (off := (-108)) (tg := 2) (x_dk dn_86_0_2_ok 19 rfl) (by decide)) nx_goto))
  (e_Lok (e_rt (I := eI) (k := 0) ⟨(x_dk dn_86_0_2_ok 20 rfl), rfl⟩))))))))
def te_86 : Nat → eE := (e_T 53 te_86_0 te_86_35)
theorem te_86_ok : ∀ pc, e_EOq eft cls elay eI n_86 pc (te_86 pc) := (e_Tok2 (te_86_0_ok) (te_86_35_ok))
theorem ho_87 : (xm_y n_87).cls = "RobotCellHouse$Floor" := rfl
def dn_87_0_0 : List (Nat × Instr × Nat) := [(0, .iconst 0, 1), (1, .istore_n 2, 1), (2, .iload_n 2, 1), (3, .aload_n 0, 1), (4, .getfield 47, 3), (7, .iload_n 1, 1), (8, .iaload, 1), (9, .if_icmp .ge 42, 3), (12, .aload_n 0, 1), (13, .getfield 53, 3), (16, .aload_n 0, 1), (17, .getfield 44, 3), (20, .iload_n 1, 1), (21, .aaload, 1), (22, .iload_n 2, 1), (23, .iaload, 1), (24, .iaload, 1), (25, .aload_n 0, 1), (26, .getfield 21, 3), (29, .iload_n 1, 1), (30, .iaload, 1), (31, .aload_n 0, 1), (32, .getfield 24, 3), (35, .iload_n 1, 1), (36, .iaload, 1)]
set_option maxRecDepth 20000 in
theorem dn_87_0_0_ok : dn_87_0_0.all (fun q => decide (decode (xm_b n_87) q.1 = .ok (q.2.1, q.2.2))) = true := xa_g_ok (by decide +kernel)
def dn_87_0_1 : List (Nat × Instr × Nat) := [(37, .invokestatic 110, 3), (40, .ifCond .eq 5, 3), (43, .iconst 1, 1), (44, .ireturn, 1), (45, .iinc 2 1, 3), (48, .goto (-46), 3), (51, .iconst 0, 1), (52, .ireturn, 1)]
set_option maxRecDepth 20000 in
theorem dn_87_0_1_ok : dn_87_0_1.all (fun q => decide (decode (xm_b n_87) q.1 = .ok (q.2.1, q.2.2))) = true := xa_g_ok (by decide +kernel)
def te_87_0 : Nat → eE := (e_T 23 (e_T 9 (e_T 3 (e_T 1 (e_T 0 (e_L 0 (0, ei_push (0, 0) 1, 0, 0)) (e_L 1 (0, ei_stor 2 0 2, 0, 0))) (e_T 2 (e_L 2 (0, ei_load 2 0 3, 0, 0)) (e_L 3 (0, ei_load 0 2 4, 0, 0)))) (e_T 7 (e_T 4 (e_L 4 (0, ei_getf eft elay 4 13 7, 0, 0)) (e_L 7 (0, ei_load 1 0 8, 0, 0))) (e_T 8 (e_L 8 (0, ei_ald elay false 9, 0, 0)) (e_L 9 (0, ei_if2 3 51 12, 0, 0))))) (e_T 17 (e_T 13 (e_T 12 (e_L 12 (0, ei_load 0 2 13, 0, 0)) (e_L 13 (0, ei_getf eft elay 4 15 16, 0, 0))) (e_T 16 (e_L 16 (0, ei_load 0 2 17, 0, 0)) (e_L 17 (0, ei_getf eft elay 4 12 20, 0, 0)))) (e_T 21 (e_T 20 (e_L 20 (0, ei_load 1 0 21, 0, 0)) (e_L 21 (0, ei_aald elay 22, 0, 0))) (e_T 22 (e_L 22 (0, ei_load 2 0 23, 0, 0)) (e_L 23 (0, ei_ald elay false 24, 0, 0)))))) (e_T 35 (e_T 29 (e_T 25 (e_T 24 (e_L 24 (0, ei_ald elay false 25, 0, 0)) (e_L 25 (0, ei_load 0 2 26, 0, 0))) (e_T 26 (e_L 26 (0, ei_getf eft elay 4 5 29, 0, 0)) (e_L 29 (0, ei_load 1 0 30, 0, 0)))) (e_T 31 (e_T 30 (e_L 30 (0, ei_ald elay false 31, 0, 0)) (e_L 31 (0, ei_load 0 2 32, 0, 0))) (e_T 32 (e_L 32 (0, ei_getf eft elay 4 6 35, 0, 0)) (e_L 35 (0, ei_load 1 0 36, 0, 0))))) (e_T 43 (e_T 37 (e_T 36 (e_L 36 (0, ei_ald elay false 37, 0, 0)) (e_L 37 (2, e_nof, 242, 3))) (e_T 40 (e_L 40 (0, ei_if1 0 45 43, 0, 0)) (e_L 43 (0, ei_push (0, 1) 44, 0, 0)))) (e_T 45 (e_T 44 (e_L 44 (1, e_nof, 4, 0)) (e_L 45 (0, ei_inc 2 1 48, 0, 0))) (e_T 48 (e_L 48 (0, ei_goto 2, 0, 0)) (e_T 51 (e_L 51 (0, ei_push (0, 0) 52, 0, 0)) (e_L 52 (1, e_nof, 4, 0))))))))
set_option maxRecDepth 20000 in
set_option maxHeartbeats 4000000 in
theorem te_87_0_ok : ∀ pc, e_EOq eft cls elay eI n_87 pc (te_87_0 pc) :=
  (e_Tok2
  (e_Tok2
  (e_Tok2
  (e_Tok2
  (e_Tok2
  (e_Lok (ps_iconst_0 (x_dk dn_87_0_0_ok 0 rfl)))
  (e_Lok (e_st (I := eI) (er_istore_n (i := 2) (x_dk dn_87_0_0_ok 1 rfl) (by decide +kernel)) nx_stor)))
  (e_Tok2
  (e_Lok (ld_iload_n_2 (x_dk dn_87_0_0_ok 2 rfl)))
  (e_Lok (ld_aload_n_0 (x_dk dn_87_0_0_ok 3 rfl)))))
  (e_Tok2
  (e_Tok2
  (e_Lok (lk_4_47g ho_87 (x_dk dn_87_0_0_ok 4 rfl)))
  (e_Lok (ld_iload_n_1 (x_dk dn_87_0_0_ok 5 rfl))))
  (e_Tok2
  (e_Lok (sm_iaload (x_dk dn_87_0_0_ok 6 rfl)))
  (e_Lok (e_st (I := eI) (er_icmpge (off := 42) (tg := 51) (x_dk dn_87_0_0_ok 7 rfl) (by decide)) nx_if2)))))
  (e_Tok2
  (e_Tok2
  (e_Tok2
  (e_Lok (ld_aload_n_0 (x_dk dn_87_0_0_ok 8 rfl)))
  (e_Lok (lk_4_53g ho_87 (x_dk dn_87_0_0_ok 9 rfl))))
  (e_Tok2
  (e_Lok (ld_aload_n_0 (x_dk dn_87_0_0_ok 10 rfl)))
  (e_Lok (lk_4_44g ho_87 (x_dk dn_87_0_0_ok 11 rfl)))))
  (e_Tok2
  (e_Tok2
  (e_Lok (ld_iload_n_1 (x_dk dn_87_0_0_ok 12 rfl)))
  (e_Lok (e_st (I := eI) (er_aaload (x_dk dn_87_0_0_ok 13 rfl)) nx_aald)))
  (e_Tok2
  (e_Lok (ld_iload_n_2 (x_dk dn_87_0_0_ok 14 rfl)))
  (e_Lok (sm_iaload (x_dk dn_87_0_0_ok 15 rfl)))))))
  (e_Tok2
  (e_Tok2
  (e_Tok2
  (e_Tok2
  (e_Lok (sm_iaload (x_dk dn_87_0_0_ok 16 rfl)))
  (e_Lok (ld_aload_n_0 (x_dk dn_87_0_0_ok 17 rfl))))
  (e_Tok2
  (e_Lok (lk_4_21g ho_87 (x_dk dn_87_0_0_ok 18 rfl)))
  (e_Lok (ld_iload_n_1 (x_dk dn_87_0_0_ok 19 rfl)))))
  (e_Tok2
  (e_Tok2
  (e_Lok (sm_iaload (x_dk dn_87_0_0_ok 20 rfl)))
  (e_Lok (ld_aload_n_0 (x_dk dn_87_0_0_ok 21 rfl))))
  (e_Tok2
  (e_Lok (lk_4_24g ho_87 (x_dk dn_87_0_0_ok 22 rfl)))
  (e_Lok (ld_iload_n_1 (x_dk dn_87_0_0_ok 23 rfl))))))
  (e_Tok2
  (e_Tok2
  (e_Tok2
  (e_Lok (sm_iaload (x_dk dn_87_0_0_ok 24 rfl)))
  (e_Lok (lk_4_110 ho_87 (x_dk dn_87_0_1_ok 0 rfl))))
  (e_Tok2
  (e_Lok (e_st (I := eI) (er_ifeq (off := 5) (tg := 45) (x_dk dn_87_0_1_ok 1 rfl) (by decide)) nx_if1))
  (e_Lok (ps_iconst_1 (x_dk dn_87_0_1_ok 2 rfl)))))
  (e_Tok2
  (e_Tok2
  (e_Lok (e_rt (I := eI) (k := 4) ⟨(x_dk dn_87_0_1_ok 3 rfl), rfl⟩))
  (e_Lok (e_st (I := eI) (er_iinc (i := 2) (n := 1) (x_dk dn_87_0_1_ok 4 rfl) (by decide +kernel) (by decide)) nx_inc)))
  (e_Tok2
  (e_Lok (e_st (I := eI) (er_goto (off := (-46)) (tg := 2) (x_dk dn_87_0_1_ok 5 rfl) (by decide)) nx_goto))
  (e_Tok2
  (e_Lok (ps_iconst_0 (x_dk dn_87_0_1_ok 6 rfl)))
  (e_Lok (e_rt (I := eI) (k := 4) ⟨(x_dk dn_87_0_1_ok 7 rfl), rfl⟩))))))))
def te_87 : Nat → eE := te_87_0
theorem te_87_ok : ∀ pc, e_EOq eft cls elay eI n_87 pc (te_87 pc) := te_87_0_ok
theorem ho_88 : (xm_y n_88).cls = "RobotCellHouse$Floor" := rfl
def dn_88_0_0 : List (Nat × Instr × Nat) := [(0, .iconst 0, 1), (1, .istore_n 3, 1), (2, .iconst 0, 1), (3, .istore 4, 2), (5, .iconst 0, 1), (6, .istore 5, 2), (8, .iload 5, 2), (10, .aload_n 0, 1), (11, .getfield 68, 3), (14, .if_icmp .ge 64, 3), (17, .iconst 0, 1), (18, .istore 6, 2), (20, .iload 6, 2), (22, .aload_n 0, 1), (23, .getfield 47, 3), (26, .iload 5, 2), (28, .iaload, 1), (29, .if_icmp .ge 43, 3), (32, .iload 4, 2), (34, .iload_n 3, 1), (35, .iconst 1, 1), (36, .aload_n 0, 1), (37, .getfield 44, 3), (40, .iload 5, 2), (42, .aaload, 1)]
set_option maxRecDepth 20000 in
theorem dn_88_0_0_ok : dn_88_0_0.all (fun q => decide (decode (xm_b n_88) q.1 = .ok (q.2.1, q.2.2))) = true := xa_g_ok (by decide +kernel)
def dn_88_0_1 : List (Nat × Instr × Nat) := [(43, .iload 6, 2), (45, .iaload, 1), (46, .ishl, 1), (47, .iand, 1), (48, .ior, 1), (49, .istore 4, 2), (51, .iload_n 3, 1), (52, .iconst 1, 1), (53, .aload_n 0, 1), (54, .getfield 44, 3), (57, .iload 5, 2), (59, .aaload, 1), (60, .iload 6, 2), (62, .iaload, 1), (63, .ishl, 1), (64, .ior, 1), (65, .istore_n 3, 1), (66, .iinc 6 1, 3), (69, .goto (-49), 3), (72, .iinc 5 1, 3), (75, .goto (-67), 3), (78, .iconst 0, 1), (79, .istore 5, 2), (81, .iload 5, 2), (83, .iload_n 2, 1)]
set_option maxRecDepth 20000 in
theorem dn_88_0_1_ok : dn_88_0_1.all (fun q => decide (decode (xm_b n_88) q.1 = .ok (q.2.1, q.2.2))) = true := xa_g_ok (by decide +kernel)
def dn_88_0_2 : List (Nat × Instr × Nat) := [(84, .if_icmp .ge 48, 3), (87, .aload_n 1, 1), (88, .iload 5, 2), (90, .aaload, 1), (91, .getfield 121, 3), (94, .ifCond .ge 7, 3), (97, .iconst 0, 1), (98, .goto 12, 3), (101, .iconst 1, 1), (102, .aload_n 1, 1), (103, .iload 5, 2), (105, .aaload, 1), (106, .getfield 121, 3), (109, .ishl, 1), (110, .istore 6, 2), (112, .iload 4, 2), (114, .iload_n 3, 1), (115, .iload 6, 2), (117, .iand, 1), (118, .ior, 1), (119, .istore 4, 2), (121, .iload_n 3, 1), (122, .iload 6, 2), (124, .ior, 1), (125, .istore_n 3, 1)]
set_option maxRecDepth 20000 in
theorem dn_88_0_2_ok : dn_88_0_2.all (fun q => decide (decode (xm_b n_88) q.1 = .ok (q.2.1, q.2.2))) = true := xa_g_ok (by decide +kernel)
def dn_88_0_3 : List (Nat × Instr × Nat) := [(126, .iinc 5 1, 3), (129, .goto (-48), 3), (132, .iconst 0, 1), (133, .istore 5, 2), (135, .iconst 0, 1), (136, .istore 6, 2), (138, .iload 6, 2), (140, .aload_n 0, 1), (141, .getfield 79, 3), (144, .if_icmp .ge 52, 3), (147, .iload_n 3, 1), (148, .iload 6, 2), (150, .ishr, 1), (151, .iconst 1, 1), (152, .iand, 1), (153, .iload 4, 2), (155, .iload 6, 2), (157, .ishr, 1), (158, .iconst 1, 1), (159, .iand, 1), (160, .iadd, 1), (161, .aload_n 0, 1), (162, .getfield 50, 3), (165, .iload 6, 2), (167, .iaload, 1)]
set_option maxRecDepth 20000 in
theorem dn_88_0_3_ok : dn_88_0_3.all (fun q => decide (decode (xm_b n_88) q.1 = .ok (q.2.1, q.2.2))) = true := xa_g_ok (by decide +kernel)
def dn_88_1_0 : List (Nat × Instr × Nat) := [(168, .bipush 8, 2), (170, .if_icmp .ne 7, 3), (173, .iconst 1, 1), (174, .goto 4, 3), (177, .iconst 0, 1), (178, .iadd, 1), (179, .istore 7, 2), (181, .iload 7, 2), (183, .iconst 1, 1), (184, .if_icmp .eq 6, 3), (187, .iinc 5 1, 3), (190, .iinc 6 1, 3), (193, .goto (-55), 3), (196, .iload 5, 2), (198, .ireturn, 1)]
set_option maxRecDepth 20000 in
theorem dn_88_1_0_ok : dn_88_1_0.all (fun q => decide (decode (xm_b n_88) q.1 = .ok (q.2.1, q.2.2))) = true := xa_g_ok (by decide +kernel)
def te_88_0 : Nat → eE := (e_T 22 (e_T 8 (e_T 2 (e_T 0 (e_L 0 (0, ei_push (0, 0) 1, 0, 0)) (e_T 1 (e_L 1 (0, ei_stor 3 0 2, 0, 0)) (e_L 2 (0, ei_push (0, 0) 3, 0, 0)))) (e_T 5 (e_T 3 (e_L 3 (0, ei_stor 4 0 5, 0, 0)) (e_L 5 (0, ei_push (0, 0) 6, 0, 0))) (e_T 6 (e_L 6 (0, ei_stor 5 0 8, 0, 0)) (e_L 8 (0, ei_load 5 0 10, 0, 0))))) (e_T 14 (e_T 10 (e_L 10 (0, ei_load 0 2 11, 0, 0)) (e_T 11 (e_L 11 (0, ei_getf eft elay 4 0 14, 0, 0)) (e_L 14 (0, ei_if2 3 78 17, 0, 0)))) (e_T 18 (e_T 17 (e_L 17 (0, ei_push (0, 0) 18, 0, 0)) (e_L 18 (0, ei_stor 6 0 20, 0, 0))) (e_T 20 (e_L 20 (0, ei_load 6 0 22, 0, 0)) (e_L 22 (0, ei_load 0 2 23, 0, 0)))))) (e_T 35 (e_T 28 (e_T 23 (e_L 23 (0, ei_getf eft elay 4 13 26, 0, 0)) (e_T 26 (e_L 26 (0, ei_load 5 0 28, 0, 0)) (e_L 28 (0, ei_ald elay false 29, 0, 0)))) (e_T 32 (e_T 29 (e_L 29 (0, ei_if2 3 72 32, 0, 0)) (e_L 32 (0, ei_load 4 0 34, 0, 0))) (e_T 34 (e_L 34 (0, ei_load 3 0 35, 0, 0)) (e_L 35 (0, ei_push (0, 1) 36, 0, 0))))) (e_T 40 (e_T 36 (e_L 36 (0, ei_load 0 2 37, 0, 0)) (e_T 37 (e_L 37 (0, ei_getf eft elay 4 12 40, 0, 0)) (e_L 40 (0, ei_load 5 0 42, 0, 0)))) (e_T 43 (e_T 42 (e_L 42 (0, ei_aald elay 43, 0, 0)) (e_L 43 (0, ei_load 6 0 45, 0, 0))) (e_T 45 (e_L 45 (0, ei_ald elay false 46, 0, 0)) (e_L 46 (0, ei_bin (eB (fun x y => x <<< (y &&& 31))) 47, 0, 0)))))))
set_option maxRecDepth 20000 in
set_option maxHeartbeats 4000000 in
theorem te_88_0_ok : ∀ pc, e_EOq eft cls elay eI n_88 pc (te_88_0 pc) :=
  (e_Tok2
  (e_Tok2
  (e_Tok2
  (e_Tok2
  (e_Lok (ps_iconst_0 (x_dk dn_88_0_0_ok 0 rfl)))
  (e_Tok2
  (e_Lok (e_st (I := eI) (er_istore_n (i := 3) (x_dk dn_88_0_0_ok 1 rfl) (by decide +kernel)) nx_stor))
  (e_Lok (ps_iconst_0 (x_dk dn_88_0_0_ok 2 rfl)))))
  (e_Tok2
  (e_Tok2
  (e_Lok (e_st (I := eI) (er_istore (i := 4) (x_dk dn_88_0_0_ok 3 rfl) (by decide +kernel)) nx_stor))
  (e_Lok (ps_iconst_0 (x_dk dn_88_0_0_ok 4 rfl))))
  (e_Tok2
  (e_Lok (e_st (I := eI) (er_istore (i := 5) (x_dk dn_88_0_0_ok 5 rfl) (by decide +kernel)) nx_stor))
  (e_Lok (ld_iload_5 (x_dk dn_88_0_0_ok 6 rfl))))))
  (e_Tok2
  (e_Tok2
  (e_Lok (ld_aload_n_0 (x_dk dn_88_0_0_ok 7 rfl)))
  (e_Tok2
  (e_Lok (lk_4_68g ho_88 (x_dk dn_88_0_0_ok 8 rfl)))
  (e_Lok (e_st (I := eI) (er_icmpge (off := 64) (tg := 78) (x_dk dn_88_0_0_ok 9 rfl) (by decide)) nx_if2))))
  (e_Tok2
  (e_Tok2
  (e_Lok (ps_iconst_0 (x_dk dn_88_0_0_ok 10 rfl)))
  (e_Lok (e_st (I := eI) (er_istore (i := 6) (x_dk dn_88_0_0_ok 11 rfl) (by decide +kernel)) nx_stor)))
  (e_Tok2
  (e_Lok (ld_iload_6 (x_dk dn_88_0_0_ok 12 rfl)))
  (e_Lok (ld_aload_n_0 (x_dk dn_88_0_0_ok 13 rfl)))))))
  (e_Tok2
  (e_Tok2
  (e_Tok2
  (e_Lok (lk_4_47g ho_88 (x_dk dn_88_0_0_ok 14 rfl)))
  (e_Tok2
  (e_Lok (ld_iload_5 (x_dk dn_88_0_0_ok 15 rfl)))
  (e_Lok (sm_iaload (x_dk dn_88_0_0_ok 16 rfl)))))
  (e_Tok2
  (e_Tok2
  (e_Lok (e_st (I := eI) (er_icmpge (off := 43) (tg := 72) (x_dk dn_88_0_0_ok 17 rfl) (by decide)) nx_if2))
  (e_Lok (ld_iload_4 (x_dk dn_88_0_0_ok 18 rfl))))
  (e_Tok2
  (e_Lok (ld_iload_n_3 (x_dk dn_88_0_0_ok 19 rfl)))
  (e_Lok (ps_iconst_1 (x_dk dn_88_0_0_ok 20 rfl))))))
  (e_Tok2
  (e_Tok2
  (e_Lok (ld_aload_n_0 (x_dk dn_88_0_0_ok 21 rfl)))
  (e_Tok2
  (e_Lok (lk_4_44g ho_88 (x_dk dn_88_0_0_ok 22 rfl)))
  (e_Lok (ld_iload_5 (x_dk dn_88_0_0_ok 23 rfl)))))
  (e_Tok2
  (e_Tok2
  (e_Lok (e_st (I := eI) (er_aaload (x_dk dn_88_0_0_ok 24 rfl)) nx_aald))
  (e_Lok (ld_iload_6 (x_dk dn_88_0_1_ok 0 rfl))))
  (e_Tok2
  (e_Lok (sm_iaload (x_dk dn_88_0_1_ok 1 rfl)))
  (e_Lok (e_st (I := eI) (er_ishl (x_dk dn_88_0_1_ok 2 rfl)) nx_bin)))))))
def te_88_28 : Nat → eE := (e_T 65 (e_T 54 (e_T 49 (e_T 47 (e_L 47 (0, ei_bin (eB (fun x y => x &&& y)) 48, 0, 0)) (e_T 48 (e_L 48 (0, ei_bin (eB (fun x y => x ||| y)) 49, 0, 0)) (e_L 49 (0, ei_stor 4 0 51, 0, 0)))) (e_T 52 (e_T 51 (e_L 51 (0, ei_load 3 0 52, 0, 0)) (e_L 52 (0, ei_push (0, 1) 53, 0, 0))) (e_T 53 (e_L 53 (0, ei_load 0 2 54, 0, 0)) (e_L 54 (0, ei_getf eft elay 4 12 57, 0, 0))))) (e_T 60 (e_T 57 (e_L 57 (0, ei_load 5 0 59, 0, 0)) (e_T 59 (e_L 59 (0, ei_aald elay 60, 0, 0)) (e_L 60 (0, ei_load 6 0 62, 0, 0)))) (e_T 63 (e_T 62 (e_L 62 (0, ei_ald elay false 63, 0, 0)) (e_L 63 (0, ei_bin (eB (fun x y => x <<< (y &&& 31))) 64, 0, 0))) (e_T 64 (e_L 64 (0, ei_bin (eB (fun x y => x ||| y)) 65, 0, 0)) (e_L 65 (0, ei_stor 3 0 66, 0, 0)))))) (e_T 81 (e_T 72 (e_T 66 (e_L 66 (0, ei_inc 6 1 69, 0, 0)) (e_T 69 (e_L 69 (0, ei_goto 20, 0, 0)) (e_L 72 (0, ei_inc 5 1 75, 0, 0)))) (e_T 78 (e_T 75 (e_L 75 (0, ei_goto 8, 0, 0)) (e_L 78 (0, ei_push (0, 0) 79, 0, 0))) (e_T 79 (e_L 79 (0, ei_stor 5 0 81, 0, 0)) (e_L 81 (0, ei_load 5 0 83, 0, 0))))) (e_T 88 (e_T 84 (e_T 83 (e_L 83 (0, ei_load 2 0 84, 0, 0)) (e_L 84 (0, ei_if2 3 132 87, 0, 0))) (e_T 87 (e_L 87 (0, ei_load 1 2 88, 0, 0)) (e_L 88 (0, ei_load 5 0 90, 0, 0)))) (e_T 91 (e_T 90 (e_L 90 (0, ei_aald elay 91, 0, 0)) (e_L 91 (0, ei_getf eft elay 0 14 94, 0, 0))) (e_T 94 (e_L 94 (0, ei_if1 3 101 97, 0, 0)) (e_L 97 (0, ei_push (0, 0) 98, 0, 0)))))))
set_option maxRecDepth 20000 in
set_option maxHeartbeats 4000000 in
theorem te_88_28_ok : ∀ pc, e_EOq eft cls elay eI n_88 pc (te_88_28 pc) :=
  (e_Tok2
  (e_Tok2
  (e_Tok2
  (e_Tok2
  (e_Lok (e_st (I := eI) (er_iand (x_dk dn_88_0_1_ok 3 rfl)) nx_bin))
  (e_Tok2
  (e_Lok (e_st (I := eI) (er_ior (x_dk dn_88_0_1_ok 4 rfl)) nx_bin))
  (e_Lok (e_st (I := eI) (er_istore (i := 4) (x_dk dn_88_0_1_ok 5 rfl) (by decide +kernel)) nx_stor))))
  (e_Tok2
  (e_Tok2
  (e_Lok (ld_iload_n_3 (x_dk dn_88_0_1_ok 6 rfl)))
  (e_Lok (ps_iconst_1 (x_dk dn_88_0_1_ok 7 rfl))))
  (e_Tok2
  (e_Lok (ld_aload_n_0 (x_dk dn_88_0_1_ok 8 rfl)))
  (e_Lok (lk_4_44g ho_88 (x_dk dn_88_0_1_ok 9 rfl))))))
  (e_Tok2
  (e_Tok2
  (e_Lok (ld_iload_5 (x_dk dn_88_0_1_ok 10 rfl)))
  (e_Tok2
  (e_Lok (e_st (I := eI) (er_aaload (x_dk dn_88_0_1_ok 11 rfl)) nx_aald))
  (e_Lok (ld_iload_6 (x_dk dn_88_0_1_ok 12 rfl)))))
  (e_Tok2
  (e_Tok2
  (e_Lok (sm_iaload (x_dk dn_88_0_1_ok 13 rfl)))
  (e_Lok (e_st (I := eI) (er_ishl (x_dk dn_88_0_1_ok 14 rfl)) nx_bin)))
  (e_Tok2
  (e_Lok (e_st (I := eI) (er_ior (x_dk dn_88_0_1_ok 15 rfl)) nx_bin))
  (e_Lok (e_st (I := eI) (er_istore_n (i := 3) (x_dk dn_88_0_1_ok 16 rfl) (by decide +kernel)) nx_stor))))))
  (e_Tok2
  (e_Tok2
  (e_Tok2
  (e_Lok (e_st (I := eI) (er_iinc (i := 6) (n := 1) (x_dk dn_88_0_1_ok 17 rfl) (by decide +kernel) (by decide)) nx_inc))
  (e_Tok2
  (e_Lok (e_st (I := eI) (er_goto (off := (-49)) (tg := 20) (x_dk dn_88_0_1_ok 18 rfl) (by decide)) nx_goto))
  (e_Lok (e_st (I := eI) (er_iinc (i := 5) (n := 1) (x_dk dn_88_0_1_ok 19 rfl) (by decide +kernel) (by decide)) nx_inc))))
  (e_Tok2
  (e_Tok2
  (e_Lok (e_st (I := eI) (er_goto (off := (-67)) (tg := 8) (x_dk dn_88_0_1_ok 20 rfl) (by decide)) nx_goto))
  (e_Lok (ps_iconst_0 (x_dk dn_88_0_1_ok 21 rfl))))
  (e_Tok2
  (e_Lok (e_st (I := eI) (er_istore (i := 5) (x_dk dn_88_0_1_ok 22 rfl) (by decide +kernel)) nx_stor))
  (e_Lok (ld_iload_5 (x_dk dn_88_0_1_ok 23 rfl))))))
  (e_Tok2
  (e_Tok2
  (e_Tok2
  (e_Lok (ld_iload_n_2 (x_dk dn_88_0_1_ok 24 rfl)))
  (e_Lok (e_st (I := eI) (er_icmpge (off := 48) (tg := 132) (x_dk dn_88_0_2_ok 0 rfl) (by decide)) nx_if2)))
  (e_Tok2
  (e_Lok (ld_aload_n_1 (x_dk dn_88_0_2_ok 1 rfl)))
  (e_Lok (ld_iload_5 (x_dk dn_88_0_2_ok 2 rfl)))))
  (e_Tok2
  (e_Tok2
  (e_Lok (e_st (I := eI) (er_aaload (x_dk dn_88_0_2_ok 3 rfl)) nx_aald))
  (e_Lok (lk_4_121g ho_88 (x_dk dn_88_0_2_ok 4 rfl))))
  (e_Tok2
  (e_Lok (e_st (I := eI) (er_ifge (off := 7) (tg := 101) (x_dk dn_88_0_2_ok 5 rfl) (by decide)) nx_if1))
  (e_Lok (ps_iconst_0 (x_dk dn_88_0_2_ok 6 rfl))))))))
def te_88_57 : Nat → eE := (e_T 119 (e_T 109 (e_T 102 (e_T 98 (e_L 98 (0, ei_goto 110, 0, 0)) (e_T 101 (e_L 101 (0, ei_push (0, 1) 102, 0, 0)) (e_L 102 (0, ei_load 1 2 103, 0, 0)))) (e_T 105 (e_T 103 (e_L 103 (0, ei_load 5 0 105, 0, 0)) (e_L 105 (0, ei_aald elay 106, 0, 0))) (e_T 106 (e_L 106 (0, ei_getf eft elay 0 14 109, 0, 0)) (e_L 109 (0, ei_bin (eB (fun x y => x <<< (y &&& 31))) 110, 0, 0))))) (e_T 114 (e_T 110 (e_L 110 (0, ei_stor 6 0 112, 0, 0)) (e_T 112 (e_L 112 (0, ei_load 4 0 114, 0, 0)) (e_L 114 (0, ei_load 3 0 115, 0, 0)))) (e_T 117 (e_T 115 (e_L 115 (0, ei_load 6 0 117, 0, 0)) (e_L 117 (0, ei_bin (eB (fun x y => x &&& y)) 118, 0, 0))) (e_T 118 (e_L 118 (0, ei_bin (eB (fun x y => x ||| y)) 119, 0, 0)) (e_L 119 (0, ei_stor 4 0 121, 0, 0)))))) (e_T 132 (e_T 124 (e_T 121 (e_L 121 (0, ei_load 3 0 122, 0, 0)) (e_T 122 (e_L 122 (0, ei_load 6 0 124, 0, 0)) (e_L 124 (0, ei_bin (eB (fun x y => x ||| y)) 125, 0, 0)))) (e_T 126 (e_T 125 (e_L 125 (0, ei_stor 3 0 126, 0, 0)) (e_L 126 (0, ei_inc 5 1 129, 0, 0))) (e_T 129 (e_L 129 (0, ei_goto 81, 0, 0)) (e_L 132 (0, ei_push (0, 0) 133, 0, 0))))) (e_T 138 (e_T 135 (e_T 133 (e_L 133 (0, ei_stor 5 0 135, 0, 0)) (e_L 135 (0, ei_push (0, 0) 136, 0, 0))) (e_T 136 (e_L 136 (0, ei_stor 6 0 138, 0, 0)) (e_L 138 (0, ei_load 6 0 140, 0, 0)))) (e_T 141 (e_T 140 (e_L 140 (0, ei_load 0 2 141, 0, 0)) (e_L 141 (0, ei_getf eft elay 4 1 144, 0, 0))) (e_T 144 (e_L 144 (0, ei_if2 3 196 147, 0, 0)) (e_L 147 (0, ei_load 3 0 148, 0, 0)))))))
set_option maxRecDepth 20000 in
set_option maxHeartbeats 4000000 in
theorem te_88_57_ok : ∀ pc, e_EOq eft cls elay eI n_88 pc (te_88_57 pc) :=
  (e_Tok2
  (e_Tok2
  (e_Tok2
  (e_Tok2
  (e_Lok (e_st (I := eI) (er_goto (off := 12) (tg := 110) (x_dk dn_88_0_2_ok 7 rfl) (by decide)) nx_goto))
  (e_Tok2
  (e_Lok (ps_iconst_1 (x_dk dn_88_0_2_ok 8 rfl)))
  (e_Lok (ld_aload_n_1 (x_dk dn_88_0_2_ok 9 rfl)))))
  (e_Tok2
  (e_Tok2
  (e_Lok (ld_iload_5 (x_dk dn_88_0_2_ok 10 rfl)))
  (e_Lok (e_st (I := eI) (er_aaload (x_dk dn_88_0_2_ok 11 rfl)) nx_aald)))
  (e_Tok2
  (e_Lok (lk_4_121g ho_88 (x_dk dn_88_0_2_ok 12 rfl)))
  (e_Lok (e_st (I := eI) (er_ishl (x_dk dn_88_0_2_ok 13 rfl)) nx_bin)))))
  (e_Tok2
  (e_Tok2
  (e_Lok (e_st (I := eI) (er_istore (i := 6) (x_dk dn_88_0_2_ok 14 rfl) (by decide +kernel)) nx_stor))
  (e_Tok2
  (e_Lok (ld_iload_4 (x_dk dn_88_0_2_ok 15 rfl)))
  (e_Lok (ld_iload_n_3 (x_dk dn_88_0_2_ok 16 rfl)))))
  (e_Tok2
  (e_Tok2
  (e_Lok (ld_iload_6 (x_dk dn_88_0_2_ok 17 rfl)))
  (e_Lok (e_st (I := eI) (er_iand (x_dk dn_88_0_2_ok 18 rfl)) nx_bin)))
  (e_Tok2
  (e_Lok (e_st (I := eI) (er_ior (x_dk dn_88_0_2_ok 19 rfl)) nx_bin))
  (e_Lok (e_st (I := eI) (er_istore (i := 4) (x_dk dn_88_0_2_ok 20 rfl) (by decide +kernel)) nx_stor))))))
  (e_Tok2
  (e_Tok2
  (e_Tok2
  (e_Lok (ld_iload_n_3 (x_dk dn_88_0_2_ok 21 rfl)))
  (e_Tok2
  (e_Lok (ld_iload_6 (x_dk dn_88_0_2_ok 22 rfl)))
  (e_Lok (e_st (I := eI) (er_ior (x_dk dn_88_0_2_ok 23 rfl)) nx_bin))))
  (e_Tok2
  (e_Tok2
  (e_Lok (e_st (I := eI) (er_istore_n (i := 3) (x_dk dn_88_0_2_ok 24 rfl) (by decide +kernel)) nx_stor))
  (e_Lok (e_st (I := eI) (er_iinc (i := 5) (n := 1) (x_dk dn_88_0_3_ok 0 rfl) (by decide +kernel) (by decide)) nx_inc)))
  (e_Tok2
  (e_Lok (e_st (I := eI) (er_goto (off := (-48)) (tg := 81) (x_dk dn_88_0_3_ok 1 rfl) (by decide)) nx_goto))
  (e_Lok (ps_iconst_0 (x_dk dn_88_0_3_ok 2 rfl))))))
  (e_Tok2
  (e_Tok2
  (e_Tok2
  (e_Lok (e_st (I := eI) (er_istore (i := 5) (x_dk dn_88_0_3_ok 3 rfl) (by decide +kernel)) nx_stor))
  (e_Lok (ps_iconst_0 (x_dk dn_88_0_3_ok 4 rfl))))
  (e_Tok2
  (e_Lok (e_st (I := eI) (er_istore (i := 6) (x_dk dn_88_0_3_ok 5 rfl) (by decide +kernel)) nx_stor))
  (e_Lok (ld_iload_6 (x_dk dn_88_0_3_ok 6 rfl)))))
  (e_Tok2
  (e_Tok2
  (e_Lok (ld_aload_n_0 (x_dk dn_88_0_3_ok 7 rfl)))
  (e_Lok (lk_4_79g ho_88 (x_dk dn_88_0_3_ok 8 rfl))))
  (e_Tok2
  (e_Lok (e_st (I := eI) (er_icmpge (off := 52) (tg := 196) (x_dk dn_88_0_3_ok 9 rfl) (by decide)) nx_if2))
  (e_Lok (ld_iload_n_3 (x_dk dn_88_0_3_ok 10 rfl))))))))
def te_88_86 : Nat → eE := (e_T 167 (e_T 157 (e_T 151 (e_T 148 (e_L 148 (0, ei_load 6 0 150, 0, 0)) (e_T 150 (e_L 150 (0, ei_bin (eB (fun x y => x >>> (y &&& 31))) 151, 0, 0)) (e_L 151 (0, ei_push (0, 1) 152, 0, 0)))) (e_T 153 (e_T 152 (e_L 152 (0, ei_bin (eB (fun x y => x &&& y)) 153, 0, 0)) (e_L 153 (0, ei_load 4 0 155, 0, 0))) (e_T 155 (e_L 155 (0, ei_load 6 0 157, 0, 0)) (e_L 157 (0, ei_bin (eB (fun x y => x >>> (y &&& 31))) 158, 0, 0))))) (e_T 160 (e_T 158 (e_L 158 (0, ei_push (0, 1) 159, 0, 0)) (e_T 159 (e_L 159 (0, ei_bin (eB (fun x y => x &&& y)) 160, 0, 0)) (e_L 160 (0, ei_bin eF_add 161, 0, 0)))) (e_T 162 (e_T 161 (e_L 161 (0, ei_load 0 2 162, 0, 0)) (e_L 162 (0, ei_getf eft elay 4 14 165, 0, 0))) (e_T 165 (e_L 165 (0, ei_load 6 0 167, 0, 0)) (e_L 167 (0, ei_ald elay false 168, 0, 0)))))) (e_T 179 (e_T 173 (e_T 168 (e_L 168 (0, ei_push (0, 8) 170, 0, 0)) (e_T 170 (e_L 170 (0, ei_if2 1 177 173, 0, 0)) (e_L 173 (0, ei_push (0, 1) 174, 0, 0)))) (e_T 177 (e_T 174 (e_L 174 (0, ei_goto 178, 0, 0)) (e_L 177 (0, ei_push (0, 0) 178, 0, 0))) (e_T 178 (e_L 178 (0, ei_bin eF_add 179, 0, 0)) (e_L 179 (0, ei_stor 7 0 181, 0, 0))))) (e_T 187 (e_T 183 (e_T 181 (e_L 181 (0, ei_load 7 0 183, 0, 0)) (e_L 183 (0, ei_push (0, 1) 184, 0, 0))) (e_T 184 (e_L 184 (0, ei_if2 0 190 187, 0, 0)) (e_L 187 (0, ei_inc 5 1 190, 0, 0)))) (e_T 193 (e_T 190 (e_L 190 (0, ei_inc 6 1 193, 0, 0)) (e_L 193 (0, ei_goto 138, 0, 0))) (e_T 196 (e_L 196 (0, ei_load 5 0 198, 0, 0)) (e_L 198 (1, e_nof, 1, 0)))))))
set_option maxRecDepth 20000 in
set_option maxHeartbeats 4000000 in
theorem te_88_86_ok : ∀ pc, e_EOq eft cls elay eI n_88 pc (te_88_86 pc) :=
  (e_Tok2
  (e_Tok2
  (e_Tok2
  (e_Tok2
  (e_Lok (ld_iload_6 (x_dk dn_88_0_3_ok 11 rfl)))
  (e_Tok2
  (e_Lok (e_st (I := eI) (er_ishr (x_dk dn_88_0_3_ok 12 rfl)) nx_bin))
  (e_Lok (ps_iconst_1 (x_dk dn_88_0_3_ok 13 rfl)))))
  (e_Tok2
  (e_Tok2
  (e_Lok (e_st (I := eI) (er_iand (x_dk dn_88_0_3_ok 14 rfl)) nx_bin))
  (e_Lok (ld_iload_4 (x_dk dn_88_0_3_ok 15 rfl))))
  (e_Tok2
  (e_Lok (ld_iload_6 (x_dk dn_88_0_3_ok 16 rfl)))
  (e_Lok (e_st (I := eI) (er_ishr (x_dk dn_88_0_3_ok 17 rfl)) nx_bin)))))
  (e_Tok2
  (e_Tok2
  (e_Lok (ps_iconst_1 (x_dk dn_88_0_3_ok 18 rfl)))
  (e_Tok2
  (e_Lok (e_st (I := eI) (er_iand (x_dk dn_88_0_3_ok 19 rfl)) nx_bin))
  (e_Lok (sm_iadd (x_dk dn_88_0_3_ok 20 rfl)))))
  (e_Tok2
  (e_Tok2
  (e_Lok (ld_aload_n_0 (x_dk dn_88_0_3_ok 21 rfl)))
  (e_Lok (lk_4_50g ho_88 (x_dk dn_88_0_3_ok 22 rfl))))
  (e_Tok2
  (e_Lok (ld_iload_6 (x_dk dn_88_0_3_ok 23 rfl)))
  (e_Lok (sm_iaload (x_dk dn_88_0_3_ok 24 rfl)))))))
  (e_Tok2
  (e_Tok2
  (e_Tok2
  (e_Lok (ps_bipush_8 (x_dk dn_88_1_0_ok 0 rfl)))
  (e_Tok2
  (e_Lok (e_st (I := eI) (er_icmpne (off := 7) (tg := 177) (x_dk dn_88_1_0_ok 1 rfl) (by decide)) nx_if2))
  (e_Lok (ps_iconst_1 (x_dk dn_88_1_0_ok 2 rfl)))))
  (e_Tok2
  (e_Tok2
  (e_Lok (e_st (I := eI) (er_goto (off := 4) (tg := 178) (x_dk dn_88_1_0_ok 3 rfl) (by decide)) nx_goto))
  (e_Lok (ps_iconst_0 (x_dk dn_88_1_0_ok 4 rfl))))
  (e_Tok2
  (e_Lok (sm_iadd (x_dk dn_88_1_0_ok 5 rfl)))
  (e_Lok (e_st (I := eI) (er_istore (i := 7) (x_dk dn_88_1_0_ok 6 rfl) (by decide +kernel)) nx_stor)))))
  (e_Tok2
  (e_Tok2
  (e_Tok2
  (e_Lok (ld_iload_7 (x_dk dn_88_1_0_ok 7 rfl)))
  (e_Lok (ps_iconst_1 (x_dk dn_88_1_0_ok 8 rfl))))
  (e_Tok2
  (e_Lok (e_st (I := eI) (er_icmpeq (off := 6) (tg := 190) (x_dk dn_88_1_0_ok 9 rfl) (by decide)) nx_if2))
  (e_Lok (e_st (I := eI) (er_iinc (i := 5) (n := 1) (x_dk dn_88_1_0_ok 10 rfl) (by decide +kernel) (by decide)) nx_inc))))
  (e_Tok2
  (e_Tok2
  (e_Lok (e_st (I := eI) (er_iinc (i := 6) (n := 1) (x_dk dn_88_1_0_ok 11 rfl) (by decide +kernel) (by decide)) nx_inc))
  (e_Lok (e_st (I := eI) (er_goto (off := (-55)) (tg := 138) (x_dk dn_88_1_0_ok 12 rfl) (by decide)) nx_goto)))
  (e_Tok2
  (e_Lok (ld_iload_5 (x_dk dn_88_1_0_ok 13 rfl)))
  (e_Lok (e_rt (I := eI) (k := 1) ⟨(x_dk dn_88_1_0_ok 14 rfl), rfl⟩)))))))
def te_88 : Nat → eE := (e_T 97 (e_T 46 te_88_0 te_88_28) (e_T 147 te_88_57 te_88_86))
theorem te_88_ok : ∀ pc, e_EOq eft cls elay eI n_88 pc (te_88 pc) := (e_Tok2 ((e_Tok2 (te_88_0_ok) (te_88_28_ok))) ((e_Tok2 (te_88_57_ok) (te_88_86_ok))))
theorem ho_89 : (xm_y n_89).cls = "RobotCellHouse$Joint" := rfl
def dn_89_0_0 : List (Nat × Instr × Nat) := [(0, .iload_n 1, 1), (1, .aload_n 0, 1), (2, .getfield 9, 3), (5, .aload_n 0, 1), (6, .getfield 15, 3), (9, .invokestatic 18, 3), (12, .ireturn, 1)]
set_option maxRecDepth 20000 in
theorem dn_89_0_0_ok : dn_89_0_0.all (fun q => decide (decode (xm_b n_89) q.1 = .ok (q.2.1, q.2.2))) = true := xa_g_ok (by decide +kernel)
def te_89_0 : Nat → eE := (e_T 2 (e_T 0 (e_L 0 (0, ei_load 1 0 1, 0, 0)) (e_T 1 (e_L 1 (0, ei_load 0 2 2, 0, 0)) (e_L 2 (0, ei_getf eft elay 5 1 5, 0, 0)))) (e_T 6 (e_T 5 (e_L 5 (0, ei_load 0 2 6, 0, 0)) (e_L 6 (0, ei_getf eft elay 5 2 9, 0, 0))) (e_T 9 (e_L 9 (2, e_nof, 242, 3)) (e_L 12 (1, e_nof, 4, 0)))))
set_option maxRecDepth 20000 in
set_option maxHeartbeats 4000000 in
theorem te_89_0_ok : ∀ pc, e_EOq eft cls elay eI n_89 pc (te_89_0 pc) :=
  (e_Tok2
  (e_Tok2
  (e_Lok (ld_iload_n_1 (x_dk dn_89_0_0_ok 0 rfl)))
  (e_Tok2
  (e_Lok (ld_aload_n_0 (x_dk dn_89_0_0_ok 1 rfl)))
  (e_Lok (lk_5_9g ho_89 (x_dk dn_89_0_0_ok 2 rfl)))))
  (e_Tok2
  (e_Tok2
  (e_Lok (ld_aload_n_0 (x_dk dn_89_0_0_ok 3 rfl)))
  (e_Lok (lk_5_15g ho_89 (x_dk dn_89_0_0_ok 4 rfl))))
  (e_Tok2
  (e_Lok (lk_5_18 ho_89 (x_dk dn_89_0_0_ok 5 rfl)))
  (e_Lok (e_rt (I := eI) (k := 4) ⟨(x_dk dn_89_0_0_ok 6 rfl), rfl⟩)))))
def te_89 : Nat → eE := te_89_0
theorem te_89_ok : ∀ pc, e_EOq eft cls elay eI n_89 pc (te_89 pc) := te_89_0_ok
theorem ho_90 : (xm_y n_90).cls = "RobotCellHouse$Joint" := rfl
def dn_90_0_0 : List (Nat × Instr × Nat) := [(0, .aload_n 0, 1), (1, .getfield 22, 3), (4, .aload_n 0, 1), (5, .getfield 25, 3), (8, .if_icmp .ge 7, 3), (11, .iconst (-1), 1), (12, .goto 4, 3), (15, .iconst 1, 1), (16, .istore_n 1, 1), (17, .aload_n 0, 1), (18, .getfield 22, 3), (21, .aload_n 0, 1), (22, .getfield 25, 3), (25, .isub, 1), (26, .iload_n 1, 1), (27, .imul, 1), (28, .istore_n 2, 1), (29, .iconst 0, 1), (30, .istore_n 3, 1), (31, .iconst 0, 1), (32, .aload_n 0, 1), (33, .getfield 28, 3), (36, .aload_n 0, 1), (37, .getfield 31, 3), (40, .iload_n 1, 1)]
set_option maxRecDepth 20000 in
theorem dn_90_0_0_ok : dn_90_0_0.all (fun q => decide (decode (xm_b n_90) q.1 = .ok (q.2.1, q.2.2))) = true := xa_g_ok (by decide +kernel)
def dn_90_0_1 : List (Nat × Instr × Nat) := [(41, .imul, 1), (42, .aload_n 0, 1), (43, .getfield 34, 3), (46, .iadd, 1), (47, .invokestatic 37, 3), (50, .invokestatic 43, 3), (53, .istore 4, 2), (55, .iconst 0, 1), (56, .istore 5, 2), (58, .iload 5, 2), (60, .bipush 12, 2), (62, .if_icmp .ge 47, 3), (65, .iload_n 3, 1), (66, .iload 4, 2), (68, .if_icmp .ge 41, 3), (71, .iload_n 3, 1), (72, .iload 4, 2), (74, .iadd, 1), (75, .iconst 1, 1), (76, .iadd, 1), (77, .iconst 2, 1), (78, .idiv, 1), (79, .istore 6, 2), (81, .aload_n 0, 1), (82, .iload 6, 2)]
set_option maxRecDepth 20000 in
theorem dn_90_0_1_ok : dn_90_0_1.all (fun q => decide (decode (xm_b n_90) q.1 = .ok (q.2.1, q.2.2))) = true := xa_g_ok (by decide +kernel)
def dn_90_0_2 : List (Nat × Instr × Nat) := [(84, .invokevirtual 46, 3), (87, .iload_n 2, 1), (88, .if_icmp .gt 9, 3), (91, .iload 6, 2), (93, .istore_n 3, 1), (94, .goto 9, 3), (97, .iload 6, 2), (99, .iconst 1, 1), (100, .isub, 1), (101, .istore 4, 2), (103, .iinc 5 1, 3), (106, .goto (-48), 3), (109, .iload_n 3, 1), (110, .iload_n 1, 1), (111, .imul, 1), (112, .ireturn, 1)]
set_option maxRecDepth 20000 in
theorem dn_90_0_2_ok : dn_90_0_2.all (fun q => decide (decode (xm_b n_90) q.1 = .ok (q.2.1, q.2.2))) = true := xa_g_ok (by decide +kernel)
def te_90_0 : Nat → eE := (e_T 27 (e_T 15 (e_T 5 (e_T 1 (e_T 0 (e_L 0 (0, ei_load 0 2 1, 0, 0)) (e_L 1 (0, ei_getf eft elay 5 9 4, 0, 0))) (e_T 4 (e_L 4 (0, ei_load 0 2 5, 0, 0)) (e_L 5 (0, ei_getf eft elay 5 7 8, 0, 0)))) (e_T 11 (e_T 8 (e_L 8 (0, ei_if2 3 15 11, 0, 0)) (e_L 11 (0, ei_push (0, (-1)) 12, 0, 0))) (e_T 12 (e_L 12 (0, ei_goto 16, 0, 0)) (e_L 15 (0, ei_push (0, 1) 16, 0, 0))))) (e_T 21 (e_T 17 (e_T 16 (e_L 16 (0, ei_stor 1 0 17, 0, 0)) (e_L 17 (0, ei_load 0 2 18, 0, 0))) (e_T 18 (e_L 18 (0, ei_getf eft elay 5 9 21, 0, 0)) (e_L 21 (0, ei_load 0 2 22, 0, 0)))) (e_T 25 (e_T 22 (e_L 22 (0, ei_getf eft elay 5 7 25, 0, 0)) (e_L 25 (0, ei_bin eF_sub 26, 0, 0))) (e_T 26 (e_L 26 (0, ei_load 1 0 27, 0, 0)) (e_L 27 (0, ei_bin eF_mul 28, 0, 0)))))) (e_T 37 (e_T 31 (e_T 29 (e_T 28 (e_L 28 (0, ei_stor 2 0 29, 0, 0)) (e_L 29 (0, ei_push (0, 0) 30, 0, 0))) (e_T 30 (e_L 30 (0, ei_stor 3 0 31, 0, 0)) (e_L 31 (0, ei_push (0, 0) 32, 0, 0)))) (e_T 33 (e_T 32 (e_L 32 (0, ei_load 0 2 33, 0, 0)) (e_L 33 (0, ei_getf eft elay 5 5 36, 0, 0))) (e_T 36 (e_L 36 (0, ei_load 0 2 37, 0, 0)) (e_L 37 (0, ei_getf eft elay 5 8 40, 0, 0))))) (e_T 43 (e_T 41 (e_T 40 (e_L 40 (0, ei_load 1 0 41, 0, 0)) (e_L 41 (0, ei_bin eF_mul 42, 0, 0))) (e_T 42 (e_L 42 (0, ei_load 0 2 43, 0, 0)) (e_L 43 (0, ei_getf eft elay 5 6 46, 0, 0)))) (e_T 47 (e_T 46 (e_L 46 (0, ei_bin eF_add 47, 0, 0)) (e_L 47 (0, ei_m2 eM_min 50, 0, 0))) (e_T 50 (e_L 50 (0, ei_m2 eM_max 53, 0, 0)) (e_T 53 (e_L 53 (0, ei_stor 4 0 55, 0, 0)) (e_L 55 (0, ei_push (0, 0) 56, 0, 0))))))))
set_option maxRecDepth 20000 in
set_option maxHeartbeats 4000000 in
theorem te_90_0_ok : ∀ pc, e_EOq eft cls elay eI n_90 pc (te_90_0 pc) :=
  (e_Tok2
  (e_Tok2
  (e_Tok2
  (e_Tok2
  (e_Tok2
  (e_Lok (ld_aload_n_0 (x_dk dn_90_0_0_ok 0 rfl)))
  (e_Lok (lk_5_22g ho_90 (x_dk dn_90_0_0_ok 1 rfl))))
  (e_Tok2
  (e_Lok (ld_aload_n_0 (x_dk dn_90_0_0_ok 2 rfl)))
  (e_Lok (lk_5_25g ho_90 (x_dk dn_90_0_0_ok 3 rfl)))))
  (e_Tok2
  (e_Tok2
  (e_Lok (e_st (I := eI) (er_icmpge (off := 7) (tg := 15) (x_dk dn_90_0_0_ok 4 rfl) (by decide)) nx_if2))
  (e_Lok (ps_iconst_m1 (x_dk dn_90_0_0_ok 5 rfl))))
  (e_Tok2
  (e_Lok (e_st (I := eI) (er_goto (off := 4) (tg := 16) (x_dk dn_90_0_0_ok 6 rfl) (by decide)) nx_goto))
  (e_Lok (ps_iconst_1 (x_dk dn_90_0_0_ok 7 rfl))))))
  (e_Tok2
  (e_Tok2
  (e_Tok2
  (e_Lok (e_st (I := eI) (er_istore_n (i := 1) (x_dk dn_90_0_0_ok 8 rfl) (by decide +kernel)) nx_stor))
  (e_Lok (ld_aload_n_0 (x_dk dn_90_0_0_ok 9 rfl))))
  (e_Tok2
  (e_Lok (lk_5_22g ho_90 (x_dk dn_90_0_0_ok 10 rfl)))
  (e_Lok (ld_aload_n_0 (x_dk dn_90_0_0_ok 11 rfl)))))
  (e_Tok2
  (e_Tok2
  (e_Lok (lk_5_25g ho_90 (x_dk dn_90_0_0_ok 12 rfl)))
  (e_Lok (sm_isub (x_dk dn_90_0_0_ok 13 rfl))))
  (e_Tok2
  (e_Lok (ld_iload_n_1 (x_dk dn_90_0_0_ok 14 rfl)))
  (e_Lok (sm_imul (x_dk dn_90_0_0_ok 15 rfl)))))))
  (e_Tok2
  (e_Tok2
  (e_Tok2
  (e_Tok2
  (e_Lok (e_st (I := eI) (er_istore_n (i := 2) (x_dk dn_90_0_0_ok 16 rfl) (by decide +kernel)) nx_stor))
  (e_Lok (ps_iconst_0 (x_dk dn_90_0_0_ok 17 rfl))))
  (e_Tok2
  (e_Lok (e_st (I := eI) (er_istore_n (i := 3) (x_dk dn_90_0_0_ok 18 rfl) (by decide +kernel)) nx_stor))
  (e_Lok (ps_iconst_0 (x_dk dn_90_0_0_ok 19 rfl)))))
  (e_Tok2
  (e_Tok2
  (e_Lok (ld_aload_n_0 (x_dk dn_90_0_0_ok 20 rfl)))
  (e_Lok (lk_5_28g ho_90 (x_dk dn_90_0_0_ok 21 rfl))))
  (e_Tok2
  (e_Lok (ld_aload_n_0 (x_dk dn_90_0_0_ok 22 rfl)))
  (e_Lok (lk_5_31g ho_90 (x_dk dn_90_0_0_ok 23 rfl))))))
  (e_Tok2
  (e_Tok2
  (e_Tok2
  (e_Lok (ld_iload_n_1 (x_dk dn_90_0_0_ok 24 rfl)))
  (e_Lok (sm_imul (x_dk dn_90_0_1_ok 0 rfl))))
  (e_Tok2
  (e_Lok (ld_aload_n_0 (x_dk dn_90_0_1_ok 1 rfl)))
  (e_Lok (lk_5_34g ho_90 (x_dk dn_90_0_1_ok 2 rfl)))))
  (e_Tok2
  (e_Tok2
  (e_Lok (sm_iadd (x_dk dn_90_0_1_ok 3 rfl)))
  (e_Lok (e_st (I := eI) (er_min (ix := 37) (in_t8 (List.mem_of_getElem? (i := 37) rfl) rfl) (in_t5 (List.mem_of_getElem? (i := 187) rfl) rfl) (in_t1 (List.mem_of_getElem? (i := 15) rfl) rfl) (in_t5 (List.mem_of_getElem? (i := 188) rfl) rfl) (x_dk dn_90_0_1_ok 4 rfl)) nx_m2)))
  (e_Tok2
  (e_Lok (e_st (I := eI) (er_max (ix := 43) (in_t8 (List.mem_of_getElem? (i := 36) rfl) rfl) (in_t5 (List.mem_of_getElem? (i := 184) rfl) rfl) (in_t1 (List.mem_of_getElem? (i := 15) rfl) rfl) (in_t5 (List.mem_of_getElem? (i := 185) rfl) rfl) (x_dk dn_90_0_1_ok 5 rfl)) nx_m2))
  (e_Tok2
  (e_Lok (e_st (I := eI) (er_istore (i := 4) (x_dk dn_90_0_1_ok 6 rfl) (by decide +kernel)) nx_stor))
  (e_Lok (ps_iconst_0 (x_dk dn_90_0_1_ok 7 rfl)))))))))
def te_90_33 : Nat → eE := (e_T 81 (e_T 71 (e_T 62 (e_T 58 (e_T 56 (e_L 56 (0, ei_stor 5 0 58, 0, 0)) (e_L 58 (0, ei_load 5 0 60, 0, 0))) (e_T 60 (e_L 60 (0, ei_push (0, 12) 62, 0, 0)) (e_L 62 (0, ei_if2 3 109 65, 0, 0)))) (e_T 66 (e_T 65 (e_L 65 (0, ei_load 3 0 66, 0, 0)) (e_L 66 (0, ei_load 4 0 68, 0, 0))) (e_T 68 (e_L 68 (0, ei_if2 3 109 71, 0, 0)) (e_L 71 (0, ei_load 3 0 72, 0, 0))))) (e_T 76 (e_T 74 (e_T 72 (e_L 72 (0, ei_load 4 0 74, 0, 0)) (e_L 74 (0, ei_bin eF_add 75, 0, 0))) (e_T 75 (e_L 75 (0, ei_push (0, 1) 76, 0, 0)) (e_L 76 (0, ei_bin eF_add 77, 0, 0)))) (e_T 78 (e_T 77 (e_L 77 (0, ei_push (0, 2) 78, 0, 0)) (e_L 78 (0, ei_bin eF_div 79, 0, 0))) (e_T 79 (e_L 79 (0, ei_stor 6 0 81, 0, 0)) (e_L 81 (0, ei_load 0 2 82, 0, 0)))))) (e_T 97 (e_T 88 (e_T 84 (e_T 82 (e_L 82 (0, ei_load 6 0 84, 0, 0)) (e_L 84 (2, e_nof, 92, 2))) (e_T 87 (e_L 87 (0, ei_load 2 0 88, 0, 0)) (e_L 88 (0, ei_if2 4 97 91, 0, 0)))) (e_T 93 (e_T 91 (e_L 91 (0, ei_load 6 0 93, 0, 0)) (e_L 93 (0, ei_stor 3 0 94, 0, 0))) (e_T 94 (e_L 94 (0, ei_goto 103, 0, 0)) (e_L 97 (0, ei_load 6 0 99, 0, 0))))) (e_T 103 (e_T 100 (e_T 99 (e_L 99 (0, ei_push (0, 1) 100, 0, 0)) (e_L 100 (0, ei_bin eF_sub 101, 0, 0))) (e_T 101 (e_L 101 (0, ei_stor 4 0 103, 0, 0)) (e_L 103 (0, ei_inc 5 1 106, 0, 0)))) (e_T 109 (e_T 106 (e_L 106 (0, ei_goto 58, 0, 0)) (e_L 109 (0, ei_load 3 0 110, 0, 0))) (e_T 110 (e_L 110 (0, ei_load 1 0 111, 0, 0)) (e_T 111 (e_L 111 (0, ei_bin eF_mul 112, 0, 0)) (e_L 112 (1, e_nof, 1, 0))))))))
set_option maxRecDepth 20000 in
set_option maxHeartbeats 4000000 in
theorem te_90_33_ok : ∀ pc, e_EOq eft cls elay eI n_90 pc (te_90_33 pc) :=
  (e_Tok2
  (e_Tok2
  (e_Tok2
  (e_Tok2
  (e_Tok2
  (e_Lok (e_st (I := eI) (er_istore (i := 5) (x_dk dn_90_0_1_ok 8 rfl) (by decide +kernel)) nx_stor))
  (e_Lok (ld_iload_5 (x_dk dn_90_0_1_ok 9 rfl))))
  (e_Tok2
  (e_Lok (ps_bipush_12 (x_dk dn_90_0_1_ok 10 rfl)))
  (e_Lok (e_st (I := eI) (er_icmpge (off := 47) (tg := 109) (x_dk dn_90_0_1_ok 11 rfl) (by decide)) nx_if2))))
  (e_Tok2
  (e_Tok2
  (e_Lok (ld_iload_n_3 (x_dk dn_90_0_1_ok 12 rfl)))
  (e_Lok (ld_iload_4 (x_dk dn_90_0_1_ok 13 rfl))))
  (e_Tok2
  (e_Lok (e_st (I := eI) (er_icmpge (off := 41) (tg := 109) (x_dk dn_90_0_1_ok 14 rfl) (by decide)) nx_if2))
  (e_Lok (ld_iload_n_3 (x_dk dn_90_0_1_ok 15 rfl))))))
  (e_Tok2
  (e_Tok2
  (e_Tok2
  (e_Lok (ld_iload_4 (x_dk dn_90_0_1_ok 16 rfl)))
  (e_Lok (sm_iadd (x_dk dn_90_0_1_ok 17 rfl))))
  (e_Tok2
  (e_Lok (ps_iconst_1 (x_dk dn_90_0_1_ok 18 rfl)))
  (e_Lok (sm_iadd (x_dk dn_90_0_1_ok 19 rfl)))))
  (e_Tok2
  (e_Tok2
  (e_Lok (ps_iconst_2 (x_dk dn_90_0_1_ok 20 rfl)))
  (e_Lok (e_st (I := eI) (er_idiv (x_dk dn_90_0_1_ok 21 rfl)) nx_bin)))
  (e_Tok2
  (e_Lok (e_st (I := eI) (er_istore (i := 6) (x_dk dn_90_0_1_ok 22 rfl) (by decide +kernel)) nx_stor))
  (e_Lok (ld_aload_n_0 (x_dk dn_90_0_1_ok 23 rfl)))))))
  (e_Tok2
  (e_Tok2
  (e_Tok2
  (e_Tok2
  (e_Lok (ld_iload_6 (x_dk dn_90_0_1_ok 24 rfl)))
  (e_Lok (lk_5_46 ho_90 (x_dk dn_90_0_2_ok 0 rfl))))
  (e_Tok2
  (e_Lok (ld_iload_n_2 (x_dk dn_90_0_2_ok 1 rfl)))
  (e_Lok (e_st (I := eI) (er_icmpgt (off := 9) (tg := 97) (x_dk dn_90_0_2_ok 2 rfl) (by decide)) nx_if2))))
  (e_Tok2
  (e_Tok2
  (e_Lok (ld_iload_6 (x_dk dn_90_0_2_ok 3 rfl)))
  (e_Lok (e_st (I := eI) (er_istore_n (i := 3) (x_dk dn_90_0_2_ok 4 rfl) (by decide +kernel)) nx_stor)))
  (e_Tok2
  (e_Lok (e_st (I := eI) (er_goto (off := 9) (tg := 103) (x_dk dn_90_0_2_ok 5 rfl) (by decide)) nx_goto))
  (e_Lok (ld_iload_6 (x_dk dn_90_0_2_ok 6 rfl))))))
  (e_Tok2
  (e_Tok2
  (e_Tok2
  (e_Lok (ps_iconst_1 (x_dk dn_90_0_2_ok 7 rfl)))
  (e_Lok (sm_isub (x_dk dn_90_0_2_ok 8 rfl))))
  (e_Tok2
  (e_Lok (e_st (I := eI) (er_istore (i := 4) (x_dk dn_90_0_2_ok 9 rfl) (by decide +kernel)) nx_stor))
  (e_Lok (e_st (I := eI) (er_iinc (i := 5) (n := 1) (x_dk dn_90_0_2_ok 10 rfl) (by decide +kernel) (by decide)) nx_inc))))
  (e_Tok2
  (e_Tok2
  (e_Lok (e_st (I := eI) (er_goto (off := (-48)) (tg := 58) (x_dk dn_90_0_2_ok 11 rfl) (by decide)) nx_goto))
  (e_Lok (ld_iload_n_3 (x_dk dn_90_0_2_ok 12 rfl))))
  (e_Tok2
  (e_Lok (ld_iload_n_1 (x_dk dn_90_0_2_ok 13 rfl)))
  (e_Tok2
  (e_Lok (sm_imul (x_dk dn_90_0_2_ok 14 rfl)))
  (e_Lok (e_rt (I := eI) (k := 1) ⟨(x_dk dn_90_0_2_ok 15 rfl), rfl⟩))))))))
def te_90 : Nat → eE := (e_T 55 te_90_0 te_90_33)
theorem te_90_ok : ∀ pc, e_EOq eft cls elay eI n_90 pc (te_90 pc) := (e_Tok2 (te_90_0_ok) (te_90_33_ok))
theorem ho_91 : (xm_y n_91).cls = "RobotCellHouse$Joint" := rfl
def dn_91_0_0 : List (Nat × Instr × Nat) := [(0, .aload_n 0, 1), (1, .getfield 31, 3), (4, .ifCond .le 17, 3), (7, .iconst 0, 1), (8, .aload_n 0, 1), (9, .getfield 31, 3), (12, .aload_n 0, 1), (13, .getfield 34, 3), (16, .isub, 1), (17, .invokestatic 43, 3), (20, .ireturn, 1), (21, .iconst 0, 1), (22, .aload_n 0, 1), (23, .getfield 31, 3), (26, .aload_n 0, 1), (27, .getfield 34, 3), (30, .iadd, 1), (31, .invokestatic 37, 3), (34, .ireturn, 1)]
set_option maxRecDepth 20000 in
theorem dn_91_0_0_ok : dn_91_0_0.all (fun q => decide (decode (xm_b n_91) q.1 = .ok (q.2.1, q.2.2))) = true := xa_g_ok (by decide +kernel)
def te_91_0 : Nat → eE := (e_T 16 (e_T 7 (e_T 1 (e_T 0 (e_L 0 (0, ei_load 0 2 1, 0, 0)) (e_L 1 (0, ei_getf eft elay 5 8 4, 0, 0))) (e_T 4 (e_L 4 (0, ei_if1 5 21 7, 0, 0)) (e_L 7 (0, ei_push (0, 0) 8, 0, 0)))) (e_T 9 (e_T 8 (e_L 8 (0, ei_load 0 2 9, 0, 0)) (e_L 9 (0, ei_getf eft elay 5 8 12, 0, 0))) (e_T 12 (e_L 12 (0, ei_load 0 2 13, 0, 0)) (e_T 13 (e_L 13 (0, ei_getf eft elay 5 6 16, 0, 0)) (e_L 16 (0, ei_bin eF_sub 17, 0, 0)))))) (e_T 23 (e_T 20 (e_T 17 (e_L 17 (0, ei_m2 eM_max 20, 0, 0)) (e_L 20 (1, e_nof, 1, 0))) (e_T 21 (e_L 21 (0, ei_push (0, 0) 22, 0, 0)) (e_T 22 (e_L 22 (0, ei_load 0 2 23, 0, 0)) (e_L 23 (0, ei_getf eft elay 5 8 26, 0, 0))))) (e_T 27 (e_T 26 (e_L 26 (0, ei_load 0 2 27, 0, 0)) (e_L 27 (0, ei_getf eft elay 5 6 30, 0, 0))) (e_T 30 (e_L 30 (0, ei_bin eF_add 31, 0, 0)) (e_T 31 (e_L 31 (0, ei_m2 eM_min 34, 0, 0)) (e_L 34 (1, e_nof, 1, 0)))))))
set_option maxRecDepth 20000 in
set_option maxHeartbeats 4000000 in
theorem te_91_0_ok : ∀ pc, e_EOq eft cls elay eI n_91 pc (te_91_0 pc) :=
  (e_Tok2
  (e_Tok2
  (e_Tok2
  (e_Tok2
  (e_Lok (ld_aload_n_0 (x_dk dn_91_0_0_ok 0 rfl)))
  (e_Lok (lk_5_31g ho_91 (x_dk dn_91_0_0_ok 1 rfl))))
  (e_Tok2
  (e_Lok (e_st (I := eI) (er_ifle (off := 17) (tg := 21) (x_dk dn_91_0_0_ok 2 rfl) (by decide)) nx_if1))
  (e_Lok (ps_iconst_0 (x_dk dn_91_0_0_ok 3 rfl)))))
  (e_Tok2
  (e_Tok2
  (e_Lok (ld_aload_n_0 (x_dk dn_91_0_0_ok 4 rfl)))
  (e_Lok (lk_5_31g ho_91 (x_dk dn_91_0_0_ok 5 rfl))))
  (e_Tok2
  (e_Lok (ld_aload_n_0 (x_dk dn_91_0_0_ok 6 rfl)))
  (e_Tok2
  (e_Lok (lk_5_34g ho_91 (x_dk dn_91_0_0_ok 7 rfl)))
  (e_Lok (sm_isub (x_dk dn_91_0_0_ok 8 rfl)))))))
  (e_Tok2
  (e_Tok2
  (e_Tok2
  (e_Lok (e_st (I := eI) (er_max (ix := 43) (in_t8 (List.mem_of_getElem? (i := 36) rfl) rfl) (in_t5 (List.mem_of_getElem? (i := 184) rfl) rfl) (in_t1 (List.mem_of_getElem? (i := 15) rfl) rfl) (in_t5 (List.mem_of_getElem? (i := 185) rfl) rfl) (x_dk dn_91_0_0_ok 9 rfl)) nx_m2))
  (e_Lok (e_rt (I := eI) (k := 1) ⟨(x_dk dn_91_0_0_ok 10 rfl), rfl⟩)))
  (e_Tok2
  (e_Lok (ps_iconst_0 (x_dk dn_91_0_0_ok 11 rfl)))
  (e_Tok2
  (e_Lok (ld_aload_n_0 (x_dk dn_91_0_0_ok 12 rfl)))
  (e_Lok (lk_5_31g ho_91 (x_dk dn_91_0_0_ok 13 rfl))))))
  (e_Tok2
  (e_Tok2
  (e_Lok (ld_aload_n_0 (x_dk dn_91_0_0_ok 14 rfl)))
  (e_Lok (lk_5_34g ho_91 (x_dk dn_91_0_0_ok 15 rfl))))
  (e_Tok2
  (e_Lok (sm_iadd (x_dk dn_91_0_0_ok 16 rfl)))
  (e_Tok2
  (e_Lok (e_st (I := eI) (er_min (ix := 37) (in_t8 (List.mem_of_getElem? (i := 37) rfl) rfl) (in_t5 (List.mem_of_getElem? (i := 187) rfl) rfl) (in_t1 (List.mem_of_getElem? (i := 15) rfl) rfl) (in_t5 (List.mem_of_getElem? (i := 188) rfl) rfl) (x_dk dn_91_0_0_ok 17 rfl)) nx_m2))
  (e_Lok (e_rt (I := eI) (k := 1) ⟨(x_dk dn_91_0_0_ok 18 rfl), rfl⟩)))))))
def te_91 : Nat → eE := te_91_0
theorem te_91_ok : ∀ pc, e_EOq eft cls elay eI n_91 pc (te_91 pc) := te_91_0_ok
theorem ho_92 : (xm_y n_92).cls = "RobotCellHouse$Joint" := rfl
def dn_92_0_0 : List (Nat × Instr × Nat) := [(0, .aload_n 0, 1), (1, .getfield 34, 3), (4, .iconst 1, 1), (5, .if_icmp .ge 5, 3), (8, .iload_n 1, 1), (9, .ireturn, 1), (10, .iload_n 1, 1), (11, .aload_n 0, 1), (12, .getfield 34, 3), (15, .iadd, 1), (16, .iconst 1, 1), (17, .isub, 1), (18, .aload_n 0, 1), (19, .getfield 34, 3), (22, .idiv, 1), (23, .istore_n 2, 1), (24, .iload_n 2, 1), (25, .iload_n 1, 1), (26, .imul, 1), (27, .aload_n 0, 1), (28, .getfield 34, 3), (31, .iload_n 2, 1), (32, .iload_n 2, 1), (33, .iconst 1, 1), (34, .isub, 1)]
set_option maxRecDepth 20000 in
theorem dn_92_0_0_ok : dn_92_0_0.all (fun q => decide (decode (xm_b n_92) q.1 = .ok (q.2.1, q.2.2))) = true := xa_g_ok (by decide +kernel)
def dn_92_0_1 : List (Nat × Instr × Nat) := [(35, .imul, 1), (36, .iconst 2, 1), (37, .idiv, 1), (38, .imul, 1), (39, .isub, 1), (40, .ireturn, 1)]
set_option maxRecDepth 20000 in
theorem dn_92_0_1_ok : dn_92_0_1.all (fun q => decide (decode (xm_b n_92) q.1 = .ok (q.2.1, q.2.2))) = true := xa_g_ok (by decide +kernel)
def te_92_0 : Nat → eE := (e_T 22 (e_T 10 (e_T 4 (e_T 0 (e_L 0 (0, ei_load 0 2 1, 0, 0)) (e_T 1 (e_L 1 (0, ei_getf eft elay 5 6 4, 0, 0)) (e_L 4 (0, ei_push (0, 1) 5, 0, 0)))) (e_T 8 (e_T 5 (e_L 5 (0, ei_if2 3 10 8, 0, 0)) (e_L 8 (0, ei_load 1 0 9, 0, 0))) (e_T 9 (e_L 9 (1, e_nof, 1, 0)) (e_L 10 (0, ei_load 1 0 11, 0, 0))))) (e_T 16 (e_T 12 (e_T 11 (e_L 11 (0, ei_load 0 2 12, 0, 0)) (e_L 12 (0, ei_getf eft elay 5 6 15, 0, 0))) (e_T 15 (e_L 15 (0, ei_bin eF_add 16, 0, 0)) (e_L 16 (0, ei_push (0, 1) 17, 0, 0)))) (e_T 18 (e_T 17 (e_L 17 (0, ei_bin eF_sub 18, 0, 0)) (e_L 18 (0, ei_load 0 2 19, 0, 0))) (e_T 19 (e_L 19 (0, ei_getf eft elay 5 6 22, 0, 0)) (e_L 22 (0, ei_bin eF_div 23, 0, 0)))))) (e_T 32 (e_T 26 (e_T 24 (e_T 23 (e_L 23 (0, ei_stor 2 0 24, 0, 0)) (e_L 24 (0, ei_load 2 0 25, 0, 0))) (e_T 25 (e_L 25 (0, ei_load 1 0 26, 0, 0)) (e_L 26 (0, ei_bin eF_mul 27, 0, 0)))) (e_T 28 (e_T 27 (e_L 27 (0, ei_load 0 2 28, 0, 0)) (e_L 28 (0, ei_getf eft elay 5 6 31, 0, 0))) (e_T 31 (e_L 31 (0, ei_load 2 0 32, 0, 0)) (e_L 32 (0, ei_load 2 0 33, 0, 0))))) (e_T 36 (e_T 34 (e_T 33 (e_L 33 (0, ei_push (0, 1) 34, 0, 0)) (e_L 34 (0, ei_bin eF_sub 35, 0, 0))) (e_T 35 (e_L 35 (0, ei_bin eF_mul 36, 0, 0)) (e_L 36 (0, ei_push (0, 2) 37, 0, 0)))) (e_T 38 (e_T 37 (e_L 37 (0, ei_bin eF_div 38, 0, 0)) (e_L 38 (0, ei_bin eF_mul 39, 0, 0))) (e_T 39 (e_L 39 (0, ei_bin eF_sub 40, 0, 0)) (e_L 40 (1, e_nof, 1, 0)))))))
set_option maxRecDepth 20000 in
set_option maxHeartbeats 4000000 in
theorem te_92_0_ok : ∀ pc, e_EOq eft cls elay eI n_92 pc (te_92_0 pc) :=
  (e_Tok2
  (e_Tok2
  (e_Tok2
  (e_Tok2
  (e_Lok (ld_aload_n_0 (x_dk dn_92_0_0_ok 0 rfl)))
  (e_Tok2
  (e_Lok (lk_5_34g ho_92 (x_dk dn_92_0_0_ok 1 rfl)))
  (e_Lok (ps_iconst_1 (x_dk dn_92_0_0_ok 2 rfl)))))
  (e_Tok2
  (e_Tok2
  (e_Lok (e_st (I := eI) (er_icmpge (off := 5) (tg := 10) (x_dk dn_92_0_0_ok 3 rfl) (by decide)) nx_if2))
  (e_Lok (ld_iload_n_1 (x_dk dn_92_0_0_ok 4 rfl))))
  (e_Tok2
  (e_Lok (e_rt (I := eI) (k := 1) ⟨(x_dk dn_92_0_0_ok 5 rfl), rfl⟩))
  (e_Lok (ld_iload_n_1 (x_dk dn_92_0_0_ok 6 rfl))))))
  (e_Tok2
  (e_Tok2
  (e_Tok2
  (e_Lok (ld_aload_n_0 (x_dk dn_92_0_0_ok 7 rfl)))
  (e_Lok (lk_5_34g ho_92 (x_dk dn_92_0_0_ok 8 rfl))))
  (e_Tok2
  (e_Lok (sm_iadd (x_dk dn_92_0_0_ok 9 rfl)))
  (e_Lok (ps_iconst_1 (x_dk dn_92_0_0_ok 10 rfl)))))
  (e_Tok2
  (e_Tok2
  (e_Lok (sm_isub (x_dk dn_92_0_0_ok 11 rfl)))
  (e_Lok (ld_aload_n_0 (x_dk dn_92_0_0_ok 12 rfl))))
  (e_Tok2
  (e_Lok (lk_5_34g ho_92 (x_dk dn_92_0_0_ok 13 rfl)))
  (e_Lok (e_st (I := eI) (er_idiv (x_dk dn_92_0_0_ok 14 rfl)) nx_bin))))))
  (e_Tok2
  (e_Tok2
  (e_Tok2
  (e_Tok2
  (e_Lok (e_st (I := eI) (er_istore_n (i := 2) (x_dk dn_92_0_0_ok 15 rfl) (by decide +kernel)) nx_stor))
  (e_Lok (ld_iload_n_2 (x_dk dn_92_0_0_ok 16 rfl))))
  (e_Tok2
  (e_Lok (ld_iload_n_1 (x_dk dn_92_0_0_ok 17 rfl)))
  (e_Lok (sm_imul (x_dk dn_92_0_0_ok 18 rfl)))))
  (e_Tok2
  (e_Tok2
  (e_Lok (ld_aload_n_0 (x_dk dn_92_0_0_ok 19 rfl)))
  (e_Lok (lk_5_34g ho_92 (x_dk dn_92_0_0_ok 20 rfl))))
  (e_Tok2
  (e_Lok (ld_iload_n_2 (x_dk dn_92_0_0_ok 21 rfl)))
  (e_Lok (ld_iload_n_2 (x_dk dn_92_0_0_ok 22 rfl))))))
  (e_Tok2
  (e_Tok2
  (e_Tok2
  (e_Lok (ps_iconst_1 (x_dk dn_92_0_0_ok 23 rfl)))
  (e_Lok (sm_isub (x_dk dn_92_0_0_ok 24 rfl))))
  (e_Tok2
  (e_Lok (sm_imul (x_dk dn_92_0_1_ok 0 rfl)))
  (e_Lok (ps_iconst_2 (x_dk dn_92_0_1_ok 1 rfl)))))
  (e_Tok2
  (e_Tok2
  (e_Lok (e_st (I := eI) (er_idiv (x_dk dn_92_0_1_ok 2 rfl)) nx_bin))
  (e_Lok (sm_imul (x_dk dn_92_0_1_ok 3 rfl))))
  (e_Tok2
  (e_Lok (sm_isub (x_dk dn_92_0_1_ok 4 rfl)))
  (e_Lok (e_rt (I := eI) (k := 1) ⟨(x_dk dn_92_0_1_ok 5 rfl), rfl⟩)))))))
def te_92 : Nat → eE := te_92_0
theorem te_92_ok : ∀ pc, e_EOq eft cls elay eI n_92 pc (te_92 pc) := te_92_0_ok
theorem ho_93 : (xm_y n_93).cls = "RobotCellHouse$Joint" := rfl
def dn_93_0_0 : List (Nat × Instr × Nat) := [(0, .aload_n 0, 1), (1, .getfield 22, 3), (4, .aload_n 0, 1), (5, .getfield 50, 3), (8, .isub, 1), (9, .invokestatic 53, 3), (12, .istore_n 1, 1), (13, .iconst 0, 1), (14, .istore_n 2, 1), (15, .iconst 0, 1), (16, .istore_n 3, 1), (17, .iload_n 2, 1), (18, .iload_n 1, 1), (19, .if_icmp .ge 36, 3), (22, .iload_n 3, 1), (23, .sipush 6000, 3), (26, .if_icmp .ge 29, 3), (29, .iinc 3 1, 3), (32, .iload_n 2, 1), (33, .aload_n 0, 1), (34, .getfield 28, 3), (37, .aload_n 0, 1), (38, .getfield 34, 3), (41, .iload_n 3, 1), (42, .iconst 1, 1)]
set_option maxRecDepth 20000 in
theorem dn_93_0_0_ok : dn_93_0_0.all (fun q => decide (decode (xm_b n_93) q.1 = .ok (q.2.1, q.2.2))) = true := xa_g_ok (by decide +kernel)
def dn_93_0_1 : List (Nat × Instr × Nat) := [(43, .iadd, 1), (44, .iconst 2, 1), (45, .idiv, 1), (46, .imul, 1), (47, .invokestatic 37, 3), (50, .iadd, 1), (51, .istore_n 2, 1), (52, .goto (-35), 3), (55, .iload_n 3, 1), (56, .ireturn, 1)]
set_option maxRecDepth 20000 in
theorem dn_93_0_1_ok : dn_93_0_1.all (fun q => decide (decode (xm_b n_93) q.1 = .ok (q.2.1, q.2.2))) = true := xa_g_ok (by decide +kernel)
def te_93_0 : Nat → eE := (e_T 26 (e_T 13 (e_T 5 (e_T 1 (e_T 0 (e_L 0 (0, ei_load 0 2 1, 0, 0)) (e_L 1 (0, ei_getf eft elay 5 9 4, 0, 0))) (e_T 4 (e_L 4 (0, ei_load 0 2 5, 0, 0)) (e_L 5 (0, ei_getf eft elay 5 10 8, 0, 0)))) (e_T 9 (e_T 8 (e_L 8 (0, ei_bin eF_sub 9, 0, 0)) (e_L 9 (0, ei_abs 12, 0, 0))) (e_T 12 (e_L 12 (0, ei_stor 1 0 13, 0, 0)) (e_L 13 (0, ei_push (0, 0) 14, 0, 0))))) (e_T 17 (e_T 15 (e_T 14 (e_L 14 (0, ei_stor 2 0 15, 0, 0)) (e_L 15 (0, ei_push (0, 0) 16, 0, 0))) (e_T 16 (e_L 16 (0, ei_stor 3 0 17, 0, 0)) (e_L 17 (0, ei_load 2 0 18, 0, 0)))) (e_T 19 (e_T 18 (e_L 18 (0, ei_load 1 0 19, 0, 0)) (e_L 19 (0, ei_if2 3 55 22, 0, 0))) (e_T 22 (e_L 22 (0, ei_load 3 0 23, 0, 0)) (e_T 23 (e_L 23 (0, ei_push (0, 6000) 26, 0, 0)) (e_L 26 (0, ei_if2 3 55 29, 0, 0))))))) (e_T 43 (e_T 34 (e_T 32 (e_T 29 (e_L 29 (0, ei_inc 3 1 32, 0, 0)) (e_L 32 (0, ei_load 2 0 33, 0, 0))) (e_T 33 (e_L 33 (0, ei_load 0 2 34, 0, 0)) (e_L 34 (0, ei_getf eft elay 5 5 37, 0, 0)))) (e_T 38 (e_T 37 (e_L 37 (0, ei_load 0 2 38, 0, 0)) (e_L 38 (0, ei_getf eft elay 5 6 41, 0, 0))) (e_T 41 (e_L 41 (0, ei_load 3 0 42, 0, 0)) (e_T 42 (e_L 42 (0, ei_push (0, 1) 43, 0, 0)) (e_L 43 (0, ei_bin eF_add 44, 0, 0)))))) (e_T 47 (e_T 45 (e_T 44 (e_L 44 (0, ei_push (0, 2) 45, 0, 0)) (e_L 45 (0, ei_bin eF_div 46, 0, 0))) (e_T 46 (e_L 46 (0, ei_bin eF_mul 47, 0, 0)) (e_L 47 (0, ei_m2 eM_min 50, 0, 0)))) (e_T 51 (e_T 50 (e_L 50 (0, ei_bin eF_add 51, 0, 0)) (e_L 51 (0, ei_stor 2 0 52, 0, 0))) (e_T 52 (e_L 52 (0, ei_goto 17, 0, 0)) (e_T 55 (e_L 55 (0, ei_load 3 0 56, 0, 0)) (e_L 56 (1, e_nof, 1, 0))))))))
set_option maxRecDepth 20000 in
set_option maxHeartbeats 4000000 in
theorem te_93_0_ok : ∀ pc, e_EOq eft cls elay eI n_93 pc (te_93_0 pc) :=
  (e_Tok2
  (e_Tok2
  (e_Tok2
  (e_Tok2
  (e_Tok2
  (e_Lok (ld_aload_n_0 (x_dk dn_93_0_0_ok 0 rfl)))
  (e_Lok (lk_5_22g ho_93 (x_dk dn_93_0_0_ok 1 rfl))))
  (e_Tok2
  (e_Lok (ld_aload_n_0 (x_dk dn_93_0_0_ok 2 rfl)))
  (e_Lok (lk_5_50g ho_93 (x_dk dn_93_0_0_ok 3 rfl)))))
  (e_Tok2
  (e_Tok2
  (e_Lok (sm_isub (x_dk dn_93_0_0_ok 4 rfl)))
  (e_Lok (e_st (I := eI) (er_abs (ix := 53) (in_t8 (List.mem_of_getElem? (i := 68) rfl) rfl) (in_t7 (List.mem_of_getElem? (i := 224) rfl) rfl) (in_t1 (List.mem_of_getElem? (i := 15) rfl) rfl) (in_t7 (List.mem_of_getElem? (i := 225) rfl) rfl) (x_dk dn_93_0_0_ok 5 rfl)) nx_abs)))
  (e_Tok2
  (e_Lok (e_st (I := eI) (er_istore_n (i := 1) (x_dk dn_93_0_0_ok 6 rfl) (by decide +kernel)) nx_stor))
  (e_Lok (ps_iconst_0 (x_dk dn_93_0_0_ok 7 rfl))))))
  (e_Tok2
  (e_Tok2
  (e_Tok2
  (e_Lok (e_st (I := eI) (er_istore_n (i := 2) (x_dk dn_93_0_0_ok 8 rfl) (by decide +kernel)) nx_stor))
  (e_Lok (ps_iconst_0 (x_dk dn_93_0_0_ok 9 rfl))))
  (e_Tok2
  (e_Lok (e_st (I := eI) (er_istore_n (i := 3) (x_dk dn_93_0_0_ok 10 rfl) (by decide +kernel)) nx_stor))
  (e_Lok (ld_iload_n_2 (x_dk dn_93_0_0_ok 11 rfl)))))
  (e_Tok2
  (e_Tok2
  (e_Lok (ld_iload_n_1 (x_dk dn_93_0_0_ok 12 rfl)))
  (e_Lok (e_st (I := eI) (er_icmpge (off := 36) (tg := 55) (x_dk dn_93_0_0_ok 13 rfl) (by decide)) nx_if2)))
  (e_Tok2
  (e_Lok (ld_iload_n_3 (x_dk dn_93_0_0_ok 14 rfl)))
  (e_Tok2
  (e_Lok (ps_sipush_6000 (x_dk dn_93_0_0_ok 15 rfl)))
  (e_Lok (e_st (I := eI) (er_icmpge (off := 29) (tg := 55) (x_dk dn_93_0_0_ok 16 rfl) (by decide)) nx_if2)))))))
  (e_Tok2
  (e_Tok2
  (e_Tok2
  (e_Tok2
  (e_Lok (e_st (I := eI) (er_iinc (i := 3) (n := 1) (x_dk dn_93_0_0_ok 17 rfl) (by decide +kernel) (by decide)) nx_inc))
  (e_Lok (ld_iload_n_2 (x_dk dn_93_0_0_ok 18 rfl))))
  (e_Tok2
  (e_Lok (ld_aload_n_0 (x_dk dn_93_0_0_ok 19 rfl)))
  (e_Lok (lk_5_28g ho_93 (x_dk dn_93_0_0_ok 20 rfl)))))
  (e_Tok2
  (e_Tok2
  (e_Lok (ld_aload_n_0 (x_dk dn_93_0_0_ok 21 rfl)))
  (e_Lok (lk_5_34g ho_93 (x_dk dn_93_0_0_ok 22 rfl))))
  (e_Tok2
  (e_Lok (ld_iload_n_3 (x_dk dn_93_0_0_ok 23 rfl)))
  (e_Tok2
  (e_Lok (ps_iconst_1 (x_dk dn_93_0_0_ok 24 rfl)))
  (e_Lok (sm_iadd (x_dk dn_93_0_1_ok 0 rfl)))))))
  (e_Tok2
  (e_Tok2
  (e_Tok2
  (e_Lok (ps_iconst_2 (x_dk dn_93_0_1_ok 1 rfl)))
  (e_Lok (e_st (I := eI) (er_idiv (x_dk dn_93_0_1_ok 2 rfl)) nx_bin)))
  (e_Tok2
  (e_Lok (sm_imul (x_dk dn_93_0_1_ok 3 rfl)))
  (e_Lok (e_st (I := eI) (er_min (ix := 37) (in_t8 (List.mem_of_getElem? (i := 37) rfl) rfl) (in_t5 (List.mem_of_getElem? (i := 187) rfl) rfl) (in_t1 (List.mem_of_getElem? (i := 15) rfl) rfl) (in_t5 (List.mem_of_getElem? (i := 188) rfl) rfl) (x_dk dn_93_0_1_ok 4 rfl)) nx_m2))))
  (e_Tok2
  (e_Tok2
  (e_Lok (sm_iadd (x_dk dn_93_0_1_ok 5 rfl)))
  (e_Lok (e_st (I := eI) (er_istore_n (i := 2) (x_dk dn_93_0_1_ok 6 rfl) (by decide +kernel)) nx_stor)))
  (e_Tok2
  (e_Lok (e_st (I := eI) (er_goto (off := (-35)) (tg := 17) (x_dk dn_93_0_1_ok 7 rfl) (by decide)) nx_goto))
  (e_Tok2
  (e_Lok (ld_iload_n_3 (x_dk dn_93_0_1_ok 8 rfl)))
  (e_Lok (e_rt (I := eI) (k := 1) ⟨(x_dk dn_93_0_1_ok 9 rfl), rfl⟩))))))))
def te_93 : Nat → eE := te_93_0
theorem te_93_ok : ∀ pc, e_EOq eft cls elay eI n_93 pc (te_93 pc) := te_93_0_ok
end
